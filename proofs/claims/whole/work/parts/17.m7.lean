/-! the reference's calls, as functions: the exception's number, the answer, the state -/
def okBC (b c : Int) : Bool := sIn b 0 5 && sIn c 0 2
def okP (S : ST) (k : Int) : Bool := sIn k 0 (S.1 8 0 - 1)
def pFund (S : ST) (b c v : Int) : Int × Int64 × ST := (sGo (okBC b c) (sIn v 1 1000000) true, if (okBC b c && sIn v 1 1000000 && true) = true then ((sRuns (sBook S (-1) b c (Int64.ofInt v) (-1))).2.2 1 (3 * b + c), (sRuns (sBook S (-1) b c (Int64.ofInt v) (-1))).2) else (0, S))
def pLine (S : ST) (b c v : Int) : Int × Int × ST := (sGo (okBC b c) (sIn v 0 1000000) true, if (okBC b c && sIn v 0 1000000 && true) = true then (S.1 2 (3 * b + c), (sRuns (pI S 2 (3 * b + c) v)).2) else (0, S))
def okBB (b u c : Int) : Bool := sIn b 0 5 && sIn u 0 5 && sIn c 0 2
def okLi (b u v : Int) : Bool := !decide (b = u) && sIn v (-1) 1000000
def pLimit (S : ST) (b u c v : Int) : Int × Int × ST := (sGo (okBB b u c) (okLi b u v) true, if (okBB b u c && okLi b u v && true) = true then (S.1 3 (3 * (6 * b + u) + c), (sRuns (pI S 3 (3 * (6 * b + u) + c) v)).2) else (0, S))
def pOut (S : ST) (b : Int) (is : Bool) : Int × Int × ST := (sGo (sIn b 0 5) true true, if (sIn b 0 5 && true && true) = true then (S.1 5 b, (sRuns (pI S 5 b (bI is))).2) else (0, S))
def pHoli (S : ST) (c d : Int) (is : Bool) : Int × Int × ST := (sGo (sIn c 0 2) (sIn d 0 999) true, if (sIn c 0 2 && sIn d 0 999 && true) = true then (bI (sOpen (sRuns (pI S 6 (1000 * c + d) (bI is))).2 c d), (sRuns (pI S 6 (1000 * c + d) (bI is))).2) else (0, S))
def lsC (S : ST) (nm : Int) (is : Bool) (k : Int) : Bool := is && decide (S.1 13 k = nm) && decide (S.1 19 k = 0) && (decide (S.1 18 k = 2) || decide (S.1 18 k = 3))
def lsB (nm : Int) (is : Bool) (k : Int) (x : Int × ST) : Int × ST := if lsC x.2 nm is k = true then (x.1 + 1, pI x.2 18 k 1) else x
def sList (S : ST) (nm : Int) (is : Bool) (n : Nat) : Int × ST := foS (lsB nm is) (0, pI S 7 nm (bI is)) n
def pList (S : ST) (nm : Int) (is : Bool) : Int × Int × ST := (sGo (sIn nm 0 19) true true, if (sIn nm 0 19 && true && true) = true then ((sList S nm is (nP S)).1, (sRuns (sList S nm is (nP S)).2).2) else (0, S))
def sdA (b msg u c nm : Int) : Bool := sIn b 0 5 && sIn u 0 5 && sIn msg 0 99 && sIn c 0 2 && sIn nm 0 19
def sdB (b u v h d : Int) : Bool := !decide (b = u) && sIn v 1 1000000 && sIn h 0 2 && sIn d 0 999
def sdI (S : ST) (b msg u c nm : Int) : Int := if sdA b msg u c nm = true then S.1 25 (100 * b + msg) else -1
def sdK (S : ST) (k u c v nm h : Int) (rl : Bool) (d : Int) (st : Bool) : Bool := !decide (k = -1) && sAlk S k u c v nm h rl d st
def sdD (S : ST) (a al : Bool) (b k : Int) : Bool := a && decide (S.1 5 b = 0) && ((decide (k = -1) && decide (S.1 8 0 < 60)) || (!decide (k = -1) && al))
def sdT (S : ST) (b msg u c v nm h : Int) (rl : Bool) (d : Int) (st : Bool) : ST := pI (sCome S b u c v nm h rl d st) 25 (100 * b + msg) (S.1 8 0)
def pSend (S : ST) (b msg u c v nm h : Int) (rl : Bool) (d : Int) (st : Bool) : Int × Int × ST := (sGo (sdA b msg u c nm) (sdB b u v h d) (sdD S (sdA b msg u c nm) (sdK S (sdI S b msg u c nm) u c v nm h rl d st) b (sdI S b msg u c nm)), if (sdA b msg u c nm && sdB b u v h d && sdD S (sdA b msg u c nm) (sdK S (sdI S b msg u c nm) u c v nm h rl d st) b (sdI S b msg u c nm)) = true then (if sdK S (sdI S b msg u c nm) u c v nm h rl d st = true then (sdI S b msg u c nm, pI S 26 0 (S.1 26 0 + 1)) else (S.1 8 0, (sRuns (sdT S b msg u c v nm h rl d st)).2)) else (0, S))
def okPP (S : ST) (k u : Int) : Bool := okP S k && okP S u
def okJ (S : ST) (k u : Int) : Bool := okPP S k u && sJoin S k u
def pJoin (S : ST) (k u : Int) : Int × ST := (sGo (okPP S k u) (okJ S k u) true, if (okPP S k u && okJ S k u && true) = true then (sRuns (pI (pI S 21 k u) 21 u k)).2 else S)
def okW (S : ST) (k : Int) : Bool := okP S k && !sEnds S k
def pWith (S : ST) (k : Int) : Int × Int × ST := (sGo (okP S k) (okW S k) true, if (okP S k && okW S k && true) = true then (sRetN S k, (sRuns (sRet S k)).2) else (0, S))
def okF (S : ST) (k : Int) : Bool := okP S k && decide (S.1 18 k = 1)
def pRefu (S : ST) (k : Int) : Int × Int × ST := (sGo (okP S k) (okF S k) true, if (okP S k && okF S k && true) = true then (sRetN S k, (sRuns (sRet S k)).2) else (0, S))
def okR1 (S : ST) (k y : Int) : Bool := okP S k && sIn y 0 3
def okR2 (S : ST) (k y : Int) : Bool := okR1 S k y && decide (S.1 18 k = 1) && !decide (S.1 20 k = y)
def pRel (S : ST) (k y : Int) : Int × Int × ST := (sGo (okR1 S k y) (okR2 S k y) true, if (okR1 S k y && okR2 S k y && true) = true then (if S.1 20 k = -1 then (0, pI (pI S 20 k y) 40 k y) else (1, (sRuns (pI (sEnter (pI S 19 k 1) k) 40 k y)).2)) else (0, S))
def sOff (S : ST) (c : Int) : Int × ST := if sOpen S c (S.1 0 0) = true then sRedS S (offI S c) c true else (0, S)
def pOff (S : ST) (c : Int) : Int × Int × ST := (sGo (sIn c 0 2) true true, if (sIn c 0 2 && true && true) = true then ((sOff S c).1, (sRuns (sOff S c).2).2) else (0, S))
def okC (S : ST) (k : Int) : Bool := okP S k && decide (S.1 18 k = 4) && decide (S.1 0 0 ≤ S.1 22 k + 3) && decide (S.1 23 k = -1)
def pRec (S : ST) (k : Int) : Int × Int × ST := (sGo (okP S k) (okC S k) true, if (okP S k && okC S k && true) = true then (S.1 0 0 + 2, pI (pI S 23 k (S.1 0 0)) 42 k (S.1 0 0 + 2)) else (0, S))
def okA (S : ST) (k : Int) (y : Bool) : Bool := okP S k && !decide (S.1 23 k = -1) && decide (S.1 24 k = 0) && decide (S.1 0 0 ≤ S.1 23 k + 2) && (!y || decide (S.1 8 0 < 60))
def anT (S : ST) (k : Int) : ST := sCome (pI S 24 k 1) (S.1 10 k) (S.1 9 k) (S.1 11 k) (S.1 12 k) 0 2 true (S.1 0 0) true
def pAns (S : ST) (k : Int) (y : Bool) : Int × Int × ST := (sGo (okP S k) (okA S k y) true, if (okP S k && okA S k y && true) = true then (if y = false then (-1, pI S 24 k 1) else (S.1 8 0, (sRuns (anT S k)).2)) else (0, S))
def pAcc (S : ST) (b c : Int) : Int × Int64 × ST := (sGo (sIn b 0 6 && sIn c 0 2) true true, if ((sIn b 0 6 && sIn c 0 2) && true && true) = true then (S.2 1 (3 * b + c), S) else (0, S))
def neB (S : ST) (c k : Int) : Bool := decide (S.2 32 (5 * k + 2) = Int64.ofInt c)
def neV (S : ST) (b c k j : Int) : Int64 := if (neB S c k && decide (S.2 32 (5 * k + j) = Int64.ofInt b)) = true then S.2 32 (5 * k + 3) else 0
def neS (S : ST) (b c k : Int) (x : Int64) : Int64 := x - neV S b c k 0 + neV S b c k 1
def sAnew (S : ST) (b c : Int) (n : Nat) : Int64 := foS (neS S b c) 0 n
def pAnew (S : ST) (b c : Int) : Int × Int64 × ST := (sGo (sIn b 0 6 && sIn c 0 2) true true, if ((sIn b 0 6 && sIn c 0 2) && true && true) = true then (sAnew S b c (S.1 31 0).toNat, S) else (0, S))
def pPaid (S : ST) (b u c : Int) : Int × Int64 × ST := (sGo (okBB b u c) true true, if (okBB b u c && true && true) = true then (S.2 4 (3 * (6 * b + u) + c), S) else (0, S))
def pStat (S : ST) (k : Int) : Int × Int × ST := (sGo (okP S k) true true, if (okP S k && true && true) = true then (S.1 18 k, S) else (0, S))
def okQ (b c p : Int) : Bool := sIn b 0 5 && sIn c 0 2 && decide (0 ≤ p)
def pQue (S : ST) (b c p : Int) : Int × Int × ST := (sGo (okQ b c p) true true, if (okQ b c p && true && true) = true then (qAt S b c p, S) else (0, S))
def pEnt (S : ST) (k j : Int) : Int × Int64 × ST := (sGo (sIn k 0 (S.1 31 0 - 1)) (sIn j 0 4) true, if (sIn k 0 (S.1 31 0 - 1) && sIn j 0 4 && true) = true then (S.2 32 (5 * k + j), S) else (0, S))
def adZ (S : ST) (b : Int) : Int := if S.1 5 b = 0 then aAt S b (S.1 29 b) else -1
def adT (S : ST) (b : Int) : Int := S.1 29 b + (if adZ S b = -1 then 0 else 1)
def adM (S : ST) (b : Int) : Int := if S.1 30 b < adT S b then adT S b else S.1 30 b
def pAdv (S : ST) (b : Int) : Int × Int × ST := (sGo (sIn b 0 5) true true, if (sIn b 0 5 && true && true) = true then (adZ S b, pI (pI S 29 b (adT S b)) 30 b (adM S b)) else (0, S))
def okG (S : ST) (b y : Int) : Bool := sIn b 0 5 && sIn y 0 (S.1 30 b)
def agK (S : ST) (b k : Int) : Int := if S.1 10 (S.1 28 k) = b then 1 else 0
def pAga (S : ST) (b y : Int) : Int × Int × ST := (sGo (sIn b 0 5) (okG S b y) true, if (sIn b 0 5 && okG S b y && true) = true then (suI (agK S b) (S.1 27 0).toNat - y, pI S 29 b y) else (0, S))
def sEndS (S : ST) : ST := sEd5 (sEd4 (sEd3 (sEd2 (sEd1 S).2)))
def pEnd (S : ST) : Int × Int × ST := (sGo (decide (S.1 0 0 < 998)) true true, if (decide (S.1 0 0 < 998) && true && true) = true then ((sEd1 S).1 + (sRuns (sEndS S)).1, (sRuns (sEndS S)).2) else (0, S))
set_option maxHeartbeats 4000000 in
set_option maxRecDepth 100000 in
theorem c_M_fund {l : Launch} {D : va_G} {cy : Nat → ClassId} {B0 : Nat} {ix : Nat → Nat} {S : ST} {I : Int → Bool} {aM qM : Int → Int64} {tM : Int} {G : gF} (b : Int) (c : Int) (v : Int) (h_b : rI b) (h_c : rI c) (h_v : rI v) (ho : okS S) (he : S.1 31 0 + cNF S ≤ 28000) : gM l yX12_fund vX12_fund 5 117 D cy B0 [.ref (ix 100), .int (iI b), .int (iI c), .int (iI v)] (mW cy ix S (mX I aM qM tM) G) (fun r g => r = some (.long (pFund S b c v).2.1) ∧ ∃ (J : Int → Bool) (a q : Int → Int64), g = mW cy ix (pFund S b c v).2.2 (mX J a q (pFund S b c v).1) G) 0 0 := by
  refine g_start (cc := cX12_fund) (maxL := 5) (ret := (some .long)) (by decide) rfl (Nat.le_of_ble_eq_true rfl) ?_
  intro p_ e_ s_ m_ be_ me_ co_ ls H locs K hr hlk hnm hK hW hl
  have hin : ∀ w ∈ wsX120, w ∈ vX12_fund := wsM_cls
  obtain ⟨hx, hb, hml, hown, hts⟩ := id K
  have hl : lv_has ls 5 [(0, .ref (ix 100)), (1, .int (iI (b))), (2, .int (iI (c))), (3, .int (iI (v)))] := hl
  have hwf : wf S := ho.1
  refine lv_aload_n hx hb dX12_fund_0 rfl (lv_at hl 0 rfl) ?_
  have j_1 : ∀ (zJ : Bool) (H : Heap) (locs : List Loc), zJ = (okBC b c) → gW D B0 s_ (mW cy ix S (mX (I) (aM) (qM) (tM)) G) H locs → W p_ l e_ { frames := 5, cells := 0, slots := 0, locals := 117 } s_ m_ ([.ref (ix 100), .int (iI b), .int (iI c), .int (iI v)] : List Value).toArray be_ me_ co_ H locs 0 0 (MQ be_ (gQ D B0 (fun (r : Option Value) (g : gF) => r = some (.long (pFund S b c v).2.1) ∧ ∃ (J : Int → Bool) (a q : Int → Int64), g = mW cy ix (pFund S b c v).2.2 (mX J a q (pFund S b c v).1) G)) ([.ref (ix 100), .int (iI b), .int (iI c), .int (iI v)] : List Value).toArray s_ 0 0 (fun q : Nat => B0 ≤ q)) (F0 m_ 20 ls [.int (iI (bI (zJ))), .ref (ix 100)]) := by
    intro zJ H locs hzJ hW
    subst hzJ
    refine lv_iload_n hx hb dX12_fund_20 rfl (lv_at hl 3 rfl) ?_
    refine xi_iconst hx hb dX12_fund_21 ?_
    refine xi_ldc hx hb 1000000 (by decide) hown (hts _ kM_192) dX12_fund_22 ?_
    refine g_callS (As := [.int (iI (v)), .int (iI (1)), .int (iI (1000000))]) (rest := [.int (iI (bI (okBC b c))), .ref (ix 100)]) K (c_M_in (v) (1) (1000000) ⟨by omega, by omega⟩ ⟨by omega, by omega⟩ ⟨by omega, by omega⟩) (va_cwS 3 hts gM_X12_in rfl rfl rfl (by decide +kernel) ⟨Nat.le_of_ble_eq_true rfl, Nat.le_of_ble_eq_true rfl⟩) hK hW rfl hl.1 rfl (Nat.le_of_ble_eq_true rfl) dX12_fund_24 ⟨Nat.le_refl _, Nat.le_refl _⟩ (fun v_ f_ H locs hp hW => ?_)
    obtain ⟨hpv, hpe⟩ := hp
    rw [hpe] at hW
    subst hpv
    refine xi_iconst hx hb dX12_fund_27 ?_
    refine g_callV (i := 0) (As := [.int (iI (bI (okBC b c))), .int (iI (bI (sIn (v) (1) (1000000)))), .int (iI (1))]) (rest := []) K (c_M_goes (okBC b c) (sIn (v) (1) (1000000)) (true)) (cwV 3 hts gM_X12_goes rfl rfl rfl (by decide +kernel) ⟨Nat.le_of_ble_eq_true rfl, Nat.le_of_ble_eq_true rfl⟩) hK hW (mW_0 _ _ _ _ _) rfl rfl hl.1 rfl (Nat.le_of_ble_eq_true rfl) dX12_fund_28 ⟨Nat.le_refl _, Nat.le_refl _⟩ (fun v_ f_ H locs hp hW => ?_)
    obtain ⟨hpv, hpe⟩ := hp
    rw [hpe] at hW
    subst hpv
    refine xi_ifb_ne (tgt := 36) hx hb dX12_fund_31 (by decide) (fun c_2 => ?_) (fun c_2 => ?_)
    · have hg := c_2
      simp only [okBC, sIn, Bool.and_eq_true, Bool.or_eq_true, decide_eq_true_eq, Bool.not_eq_true', decide_eq_false_iff_not, and_true, true_and] at hg
      have h80 := wf_8 hwf 0
      refine lv_aload_n hx hb dX12_fund_36 rfl (lv_at hl 0 rfl) ?_
      refine xi_iconst hx hb dX12_fund_37 ?_
      refine lv_iload_n hx hb dX12_fund_38 rfl (lv_at hl 1 rfl) ?_
      refine lv_iload_n hx hb dX12_fund_39 rfl (lv_at hl 2 rfl) ?_
      refine lv_iload_n hx hb dX12_fund_40 rfl (lv_at hl 3 rfl) ?_
      refine xi_i2l hx hb ⟨by omega, by omega⟩ dX12_fund_41 ?_
      refine xi_iconst hx hb dX12_fund_42 ?_
      refine g_callV (i := 0) (As := [.int (iI ((-1))), .int (iI (b)), .int (iI (c)), .long (Int64.ofInt (v)), .int (iI ((-1)))]) (rest := []) K (c_M_books ((-1)) (b) (c) (Int64.ofInt (v)) ((-1)) ⟨by omega, by omega⟩ ⟨by omega, by omega⟩ ⟨by omega, by omega⟩ ⟨by omega, by omega⟩ hwf) (cwV 5 hts gM_X12_books rfl rfl rfl (by decide +kernel) ⟨Nat.le_of_ble_eq_true rfl, Nat.le_of_ble_eq_true rfl⟩) hK hW (mW_0 _ _ _ _ _) rfl rfl hl.1 rfl (Nat.le_of_ble_eq_true rfl) dX12_fund_43 ⟨Nat.le_refl _, Nat.le_refl _⟩ (fun v_ f_ H locs hp hW => ?_)
      obtain ⟨hpv, hpe⟩ := hp
      rw [hpe] at hW
      subst hpv
      refine lv_aload_n hx hb dX12_fund_46 rfl (lv_at hl 0 rfl) ?_
      refine g_callV (i := 0) (As := []) (rest := []) K (c_M_runs (okS_book ho (-1) b c (Int64.ofInt v) (-1) (by omega))) (cwV 0 hts gM_X12_runs rfl rfl rfl (by decide +kernel) ⟨Nat.le_of_ble_eq_true rfl, Nat.le_of_ble_eq_true rfl⟩) hK hW (mW_0 _ _ _ _ _) rfl rfl hl.1 rfl (Nat.le_of_ble_eq_true rfl) dX12_fund_47 ⟨Nat.le_refl _, Nat.le_refl _⟩ (fun v_ f_ H locs hp hW => ?_)
      obtain ⟨hpv, J, a, q, hpe⟩ := hp
      rw [hpe] at hW
      subst hpv
      refine lv_istore (lv' := [(4, .int (iI ((sRuns (sBook S ((-1)) (b) (c) (Int64.ofInt (v)) ((-1)))).1))), (0, .ref (ix 100)), (1, .int (iI (b))), (2, .int (iI (c))), (3, .int (iI (v)))]) hx hb dX12_fund_50 hl (by decide) rfl (fun ls hl => ?_)
      refine lv_aload_n hx hb dX12_fund_52 rfl (lv_at hl 1 rfl) ?_
      refine mr_get K hK hW hin 1 (by decide) lM_account (v := .ref (ix 101)) rfl dX12_fund_53 ?_
      refine lv_iload_n hx hb dX12_fund_56 rfl (lv_at hl 2 rfl) ?_
      refine lv_iload_n hx hb dX12_fund_57 rfl (lv_at hl 3 rfl) ?_
      refine g_callS (As := [.int (iI (b)), .int (iI (c))]) (rest := [.ref (ix 101)]) K (c_M_of (b) (c)) (va_cwS 2 hts gM_X12_of rfl rfl rfl (by decide +kernel) ⟨Nat.le_of_ble_eq_true rfl, Nat.le_of_ble_eq_true rfl⟩) hK hW rfl hl.1 rfl (Nat.le_of_ble_eq_true rfl) dX12_fund_58 ⟨Nat.le_refl _, Nat.le_refl _⟩ (fun v_ f_ H locs hp hW => ?_)
      obtain ⟨hpv, hpe⟩ := hp
      rw [hpe] at hW
      subst hpv
      refine mr_lald K hK hW 1 (by decide) rfl (n := 21) rfl rfl ⟨by omega, by omega⟩ (v := ((sRuns (sBook S ((-1)) (b) (c) (Int64.ofInt (v)) ((-1)))).2).2 1 (3 * b + c)) rfl dX12_fund_61 ?_
      exact g_lret hx hb hr hW ⟨by rw [pFund, if_pos c_2], _, _, _, by rw [pFund, if_pos c_2]⟩ dX12_fund_62 hlk
    · refine lv_lconst (v := 0) hx hb dX12_fund_34 (by decide) ?_
      exact g_lret hx hb hr hW ⟨by rw [pFund, if_neg (by rw [c_2]; decide)], _, _, _, by rw [pFund, if_neg (by rw [c_2]; decide)]⟩ dX12_fund_35 hlk
  refine lv_iload_n hx hb dX12_fund_1 rfl (lv_at hl 1 rfl) ?_
  refine g_callS (As := [.int (iI (b))]) (rest := [.ref (ix 100)]) K (c_M_isBank (b) ⟨by omega, by omega⟩) (va_cwS 1 hts gM_X12_isBank rfl rfl rfl (by decide +kernel) ⟨Nat.le_of_ble_eq_true rfl, Nat.le_of_ble_eq_true rfl⟩) hK hW rfl hl.1 rfl (Nat.le_of_ble_eq_true rfl) dX12_fund_2 ⟨Nat.le_refl _, Nat.le_refl _⟩ (fun v_ f_ H locs hp hW => ?_)
  obtain ⟨hpv, hpe⟩ := hp
  rw [hpe] at hW
  subst hpv
  refine xi_ifb_eq (tgt := 19) hx hb dX12_fund_5 (by decide) (fun c_3 => ?_) (fun c_3 => ?_)
  · refine xi_iconst hx hb dX12_fund_19 ?_
    exact xi_eq (z' := bI (okBC b c)) (bI_f (by simp only [okBC, c_3, decide_true, decide_false, Bool.true_and, Bool.and_true, Bool.false_and, Bool.and_false, Bool.true_or, Bool.or_true, Bool.false_or, Bool.or_false, Bool.not_true, Bool.not_false, eq_self])) (j_1 _ _ _ rfl hW)
  · refine lv_iload_n hx hb dX12_fund_8 rfl (lv_at hl 2 rfl) ?_
    refine g_callS (As := [.int (iI (c))]) (rest := [.ref (ix 100)]) K (c_M_isCurrency (c) ⟨by omega, by omega⟩) (va_cwS 1 hts gM_X12_isCurrency rfl rfl rfl (by decide +kernel) ⟨Nat.le_of_ble_eq_true rfl, Nat.le_of_ble_eq_true rfl⟩) hK hW rfl hl.1 rfl (Nat.le_of_ble_eq_true rfl) dX12_fund_9 ⟨Nat.le_refl _, Nat.le_refl _⟩ (fun v_ f_ H locs hp hW => ?_)
    obtain ⟨hpv, hpe⟩ := hp
    rw [hpe] at hW
    subst hpv
    refine xi_ifb_eq (tgt := 19) hx hb dX12_fund_12 (by decide) (fun c_4 => ?_) (fun c_4 => ?_)
    · refine xi_iconst hx hb dX12_fund_19 ?_
      exact xi_eq (z' := bI (okBC b c)) (bI_f (by simp only [okBC, c_3, c_4, decide_true, decide_false, Bool.true_and, Bool.and_true, Bool.false_and, Bool.and_false, Bool.true_or, Bool.or_true, Bool.false_or, Bool.or_false, Bool.not_true, Bool.not_false, eq_self])) (j_1 _ _ _ rfl hW)
    · refine xi_iconst hx hb dX12_fund_15 ?_
      refine lv_goto (tgt := 20) hx hb dX12_fund_16 (by decide) ?_
      exact xi_eq (z' := bI (okBC b c)) (bI_t (by simp only [okBC, c_3, c_4, decide_true, decide_false, Bool.true_and, Bool.and_true, Bool.false_and, Bool.and_false, Bool.true_or, Bool.or_true, Bool.false_or, Bool.or_false, Bool.not_true, Bool.not_false, eq_self])) (j_1 _ _ _ rfl hW)
set_option maxHeartbeats 4000000 in
set_option maxRecDepth 100000 in
theorem c_M_line {l : Launch} {D : va_G} {cy : Nat → ClassId} {B0 : Nat} {ix : Nat → Nat} {S : ST} {I : Int → Bool} {aM qM : Int → Int64} {tM : Int} {G : gF} (b : Int) (c : Int) (v : Int) (h_b : rI b) (h_c : rI c) (h_v : rI v) (ho : okS S)  : gM l yX12_line vX12_line 5 117 D cy B0 [.ref (ix 100), .int (iI b), .int (iI c), .int (iI v)] (mW cy ix S (mX I aM qM tM) G) (fun r g => r = some (.int (iI (pLine S b c v).2.1)) ∧ ∃ (J : Int → Bool) (a q : Int → Int64), g = mW cy ix (pLine S b c v).2.2 (mX J a q (pLine S b c v).1) G) 0 0 := by
  refine g_start (cc := cX12_line) (maxL := 6) (ret := (some .int)) (by decide) rfl (Nat.le_of_ble_eq_true rfl) ?_
  intro p_ e_ s_ m_ be_ me_ co_ ls H locs K hr hlk hnm hK hW hl
  have hin : ∀ w ∈ wsX120, w ∈ vX12_line := wsM_cls
  obtain ⟨hx, hb, hml, hown, hts⟩ := id K
  have hl : lv_has ls 6 [(0, .ref (ix 100)), (1, .int (iI (b))), (2, .int (iI (c))), (3, .int (iI (v)))] := hl
  have hwf : wf S := ho.1
  refine lv_aload_n hx hb dX12_line_0 rfl (lv_at hl 0 rfl) ?_
  have j_1 : ∀ (zJ : Bool) (H : Heap) (locs : List Loc), zJ = (okBC b c) → gW D B0 s_ (mW cy ix S (mX (I) (aM) (qM) (tM)) G) H locs → W p_ l e_ { frames := 5, cells := 0, slots := 0, locals := 117 } s_ m_ ([.ref (ix 100), .int (iI b), .int (iI c), .int (iI v)] : List Value).toArray be_ me_ co_ H locs 0 0 (MQ be_ (gQ D B0 (fun (r : Option Value) (g : gF) => r = some (.int (iI (pLine S b c v).2.1)) ∧ ∃ (J : Int → Bool) (a q : Int → Int64), g = mW cy ix (pLine S b c v).2.2 (mX J a q (pLine S b c v).1) G)) ([.ref (ix 100), .int (iI b), .int (iI c), .int (iI v)] : List Value).toArray s_ 0 0 (fun q : Nat => B0 ≤ q)) (F0 m_ 20 ls [.int (iI (bI (zJ))), .ref (ix 100)]) := by
    intro zJ H locs hzJ hW
    subst hzJ
    refine lv_iload_n hx hb dX12_line_20 rfl (lv_at hl 3 rfl) ?_
    refine xi_iconst hx hb dX12_line_21 ?_
    refine xi_ldc hx hb 1000000 (by decide) hown (hts _ kM_192) dX12_line_22 ?_
    refine g_callS (As := [.int (iI (v)), .int (iI (0)), .int (iI (1000000))]) (rest := [.int (iI (bI (okBC b c))), .ref (ix 100)]) K (c_M_in (v) (0) (1000000) ⟨by omega, by omega⟩ ⟨by omega, by omega⟩ ⟨by omega, by omega⟩) (va_cwS 3 hts gM_X12_in rfl rfl rfl (by decide +kernel) ⟨Nat.le_of_ble_eq_true rfl, Nat.le_of_ble_eq_true rfl⟩) hK hW rfl hl.1 rfl (Nat.le_of_ble_eq_true rfl) dX12_line_24 ⟨Nat.le_refl _, Nat.le_refl _⟩ (fun v_ f_ H locs hp hW => ?_)
    obtain ⟨hpv, hpe⟩ := hp
    rw [hpe] at hW
    subst hpv
    refine xi_iconst hx hb dX12_line_27 ?_
    refine g_callV (i := 0) (As := [.int (iI (bI (okBC b c))), .int (iI (bI (sIn (v) (0) (1000000)))), .int (iI (1))]) (rest := []) K (c_M_goes (okBC b c) (sIn (v) (0) (1000000)) (true)) (cwV 3 hts gM_X12_goes rfl rfl rfl (by decide +kernel) ⟨Nat.le_of_ble_eq_true rfl, Nat.le_of_ble_eq_true rfl⟩) hK hW (mW_0 _ _ _ _ _) rfl rfl hl.1 rfl (Nat.le_of_ble_eq_true rfl) dX12_line_28 ⟨Nat.le_refl _, Nat.le_refl _⟩ (fun v_ f_ H locs hp hW => ?_)
    obtain ⟨hpv, hpe⟩ := hp
    rw [hpe] at hW
    subst hpv
    refine xi_ifb_ne (tgt := 36) hx hb dX12_line_31 (by decide) (fun c_2 => ?_) (fun c_2 => ?_)
    · have hg := c_2
      simp only [okBC, sIn, Bool.and_eq_true, Bool.or_eq_true, decide_eq_true_eq, Bool.not_eq_true', decide_eq_false_iff_not, and_true, true_and] at hg
      have h80 := wf_8 hwf 0
      refine lv_aload_n hx hb dX12_line_36 rfl (lv_at hl 0 rfl) ?_
      refine mr_get K hK hW hin 2 (by decide) lM_line (v := .ref (ix 102)) rfl dX12_line_37 ?_
      refine lv_iload_n hx hb dX12_line_40 rfl (lv_at hl 1 rfl) ?_
      refine lv_iload_n hx hb dX12_line_41 rfl (lv_at hl 2 rfl) ?_
      refine g_callS (As := [.int (iI (b)), .int (iI (c))]) (rest := [.ref (ix 102)]) K (c_M_of (b) (c)) (va_cwS 2 hts gM_X12_of rfl rfl rfl (by decide +kernel) ⟨Nat.le_of_ble_eq_true rfl, Nat.le_of_ble_eq_true rfl⟩) hK hW rfl hl.1 rfl (Nat.le_of_ble_eq_true rfl) dX12_line_42 ⟨Nat.le_refl _, Nat.le_refl _⟩ (fun v_ f_ H locs hp hW => ?_)
      obtain ⟨hpv, hpe⟩ := hp
      rw [hpe] at hW
      subst hpv
      refine mr_iald K hK hW 2 (by decide) rfl (n := 18) rfl rfl ⟨by omega, by omega⟩ (v := S.1 2 (3 * b + c)) rfl dX12_line_45 ?_
      have w_3 := wf_2 hwf (3 * b + c)
      refine lv_istore (lv' := [(4, .int (iI (S.1 2 (3 * b + c)))), (0, .ref (ix 100)), (1, .int (iI (b))), (2, .int (iI (c))), (3, .int (iI (v)))]) hx hb dX12_line_46 hl (by decide) rfl (fun ls hl => ?_)
      refine lv_aload_n hx hb dX12_line_48 rfl (lv_at hl 1 rfl) ?_
      refine mr_get K hK hW hin 2 (by decide) lM_line (v := .ref (ix 102)) rfl dX12_line_49 ?_
      refine lv_iload_n hx hb dX12_line_52 rfl (lv_at hl 2 rfl) ?_
      refine lv_iload_n hx hb dX12_line_53 rfl (lv_at hl 3 rfl) ?_
      refine g_callS (As := [.int (iI (b)), .int (iI (c))]) (rest := [.ref (ix 102)]) K (c_M_of (b) (c)) (va_cwS 2 hts gM_X12_of rfl rfl rfl (by decide +kernel) ⟨Nat.le_of_ble_eq_true rfl, Nat.le_of_ble_eq_true rfl⟩) hK hW rfl hl.1 rfl (Nat.le_of_ble_eq_true rfl) dX12_line_54 ⟨Nat.le_refl _, Nat.le_refl _⟩ (fun v_ f_ H locs hp hW => ?_)
      obtain ⟨hpv, hpe⟩ := hp
      rw [hpe] at hW
      subst hpv
      refine lv_iload_n hx hb dX12_line_57 rfl (lv_at hl 4 rfl) ?_
      refine mr_iast K hK hW 2 (by decide) rfl (n := 18) rfl rfl ⟨by omega, by omega⟩ dX12_line_58 (fun H locs hW => ?_)
      refine lv_aload_n hx hb dX12_line_59 rfl (lv_at hl 1 rfl) ?_
      refine g_callV (i := 0) (As := []) (rest := []) K (c_M_runs (okS_pI ho (f := 2) (3 * b + c) v (by decide) ⟨by simp only [rLo]; omega, by simp only [rHi]; omega⟩)) (cwV 0 hts gM_X12_runs rfl rfl rfl (by decide +kernel) ⟨Nat.le_of_ble_eq_true rfl, Nat.le_of_ble_eq_true rfl⟩) hK hW (mW_0 _ _ _ _ _) rfl rfl hl.1 rfl (Nat.le_of_ble_eq_true rfl) dX12_line_60 ⟨Nat.le_refl _, Nat.le_refl _⟩ (fun v_ f_ H locs hp hW => ?_)
      obtain ⟨hpv, J, a, q, hpe⟩ := hp
      rw [hpe] at hW
      subst hpv
      refine lv_istore (lv' := [(5, .int (iI ((sRuns (pI S 2 (3 * b + c) (v))).1))), (4, .int (iI (S.1 2 (3 * b + c)))), (0, .ref (ix 100)), (1, .int (iI (b))), (2, .int (iI (c))), (3, .int (iI (v)))]) hx hb dX12_line_63 hl (by decide) rfl (fun ls hl => ?_)
      refine lv_iload hx hb dX12_line_65 (lv_at hl 1 rfl) ?_
      exact g_iret hx hb hr hW ⟨by rw [pLine, if_pos c_2], _, _, _, by rw [pLine, if_pos c_2]⟩ dX12_line_67 hlk
    · refine xi_iconst hx hb dX12_line_34 ?_
      exact g_iret hx hb hr hW ⟨by rw [pLine, if_neg (by rw [c_2]; decide)], _, _, _, by rw [pLine, if_neg (by rw [c_2]; decide)]⟩ dX12_line_35 hlk
  refine lv_iload_n hx hb dX12_line_1 rfl (lv_at hl 1 rfl) ?_
  refine g_callS (As := [.int (iI (b))]) (rest := [.ref (ix 100)]) K (c_M_isBank (b) ⟨by omega, by omega⟩) (va_cwS 1 hts gM_X12_isBank rfl rfl rfl (by decide +kernel) ⟨Nat.le_of_ble_eq_true rfl, Nat.le_of_ble_eq_true rfl⟩) hK hW rfl hl.1 rfl (Nat.le_of_ble_eq_true rfl) dX12_line_2 ⟨Nat.le_refl _, Nat.le_refl _⟩ (fun v_ f_ H locs hp hW => ?_)
  obtain ⟨hpv, hpe⟩ := hp
  rw [hpe] at hW
  subst hpv
  refine xi_ifb_eq (tgt := 19) hx hb dX12_line_5 (by decide) (fun c_4 => ?_) (fun c_4 => ?_)
  · refine xi_iconst hx hb dX12_line_19 ?_
    exact xi_eq (z' := bI (okBC b c)) (bI_f (by simp only [okBC, c_4, decide_true, decide_false, Bool.true_and, Bool.and_true, Bool.false_and, Bool.and_false, Bool.true_or, Bool.or_true, Bool.false_or, Bool.or_false, Bool.not_true, Bool.not_false, eq_self])) (j_1 _ _ _ rfl hW)
  · refine lv_iload_n hx hb dX12_line_8 rfl (lv_at hl 2 rfl) ?_
    refine g_callS (As := [.int (iI (c))]) (rest := [.ref (ix 100)]) K (c_M_isCurrency (c) ⟨by omega, by omega⟩) (va_cwS 1 hts gM_X12_isCurrency rfl rfl rfl (by decide +kernel) ⟨Nat.le_of_ble_eq_true rfl, Nat.le_of_ble_eq_true rfl⟩) hK hW rfl hl.1 rfl (Nat.le_of_ble_eq_true rfl) dX12_line_9 ⟨Nat.le_refl _, Nat.le_refl _⟩ (fun v_ f_ H locs hp hW => ?_)
    obtain ⟨hpv, hpe⟩ := hp
    rw [hpe] at hW
    subst hpv
    refine xi_ifb_eq (tgt := 19) hx hb dX12_line_12 (by decide) (fun c_5 => ?_) (fun c_5 => ?_)
    · refine xi_iconst hx hb dX12_line_19 ?_
      exact xi_eq (z' := bI (okBC b c)) (bI_f (by simp only [okBC, c_4, c_5, decide_true, decide_false, Bool.true_and, Bool.and_true, Bool.false_and, Bool.and_false, Bool.true_or, Bool.or_true, Bool.false_or, Bool.or_false, Bool.not_true, Bool.not_false, eq_self])) (j_1 _ _ _ rfl hW)
    · refine xi_iconst hx hb dX12_line_15 ?_
      refine lv_goto (tgt := 20) hx hb dX12_line_16 (by decide) ?_
      exact xi_eq (z' := bI (okBC b c)) (bI_t (by simp only [okBC, c_4, c_5, decide_true, decide_false, Bool.true_and, Bool.and_true, Bool.false_and, Bool.and_false, Bool.true_or, Bool.or_true, Bool.false_or, Bool.or_false, Bool.not_true, Bool.not_false, eq_self])) (j_1 _ _ _ rfl hW)
set_option maxHeartbeats 4000000 in
set_option maxRecDepth 100000 in
theorem c_M_limit {l : Launch} {D : va_G} {cy : Nat → ClassId} {B0 : Nat} {ix : Nat → Nat} {S : ST} {I : Int → Bool} {aM qM : Int → Int64} {tM : Int} {G : gF} (b : Int) (u : Int) (c : Int) (v : Int) (h_b : rI b) (h_u : rI u) (h_c : rI c) (h_v : rI v) (ho : okS S)  : gM l yX12_limit vX12_limit 5 117 D cy B0 [.ref (ix 100), .int (iI b), .int (iI u), .int (iI c), .int (iI v)] (mW cy ix S (mX I aM qM tM) G) (fun r g => r = some (.int (iI (pLimit S b u c v).2.1)) ∧ ∃ (J : Int → Bool) (a q : Int → Int64), g = mW cy ix (pLimit S b u c v).2.2 (mX J a q (pLimit S b u c v).1) G) 0 0 := by
  refine g_start (cc := cX12_limit) (maxL := 8) (ret := (some .int)) (by decide) rfl (Nat.le_of_ble_eq_true rfl) ?_
  intro p_ e_ s_ m_ be_ me_ co_ ls H locs K hr hlk hnm hK hW hl
  have hin : ∀ w ∈ wsX120, w ∈ vX12_limit := wsM_cls
  obtain ⟨hx, hb, hml, hown, hts⟩ := id K
  have hl : lv_has ls 8 [(0, .ref (ix 100)), (1, .int (iI (b))), (2, .int (iI (u))), (3, .int (iI (c))), (4, .int (iI (v)))] := hl
  have hwf : wf S := ho.1
  have j_1 : ∀ (zJ : Bool) (H : Heap) (locs : List Loc), zJ = (okBB b u c) → gW D B0 s_ (mW cy ix S (mX (I) (aM) (qM) (tM)) G) H locs → W p_ l e_ { frames := 5, cells := 0, slots := 0, locals := 117 } s_ m_ ([.ref (ix 100), .int (iI b), .int (iI u), .int (iI c), .int (iI v)] : List Value).toArray be_ me_ co_ H locs 0 0 (MQ be_ (gQ D B0 (fun (r : Option Value) (g : gF) => r = some (.int (iI (pLimit S b u c v).2.1)) ∧ ∃ (J : Int → Bool) (a q : Int → Int64), g = mW cy ix (pLimit S b u c v).2.2 (mX J a q (pLimit S b u c v).1) G)) ([.ref (ix 100), .int (iI b), .int (iI u), .int (iI c), .int (iI v)] : List Value).toArray s_ 0 0 (fun q : Nat => B0 ≤ q)) (F0 m_ 26 ls [.int (iI (bI (zJ)))]) := by
    intro zJ H locs hzJ hW
    subst hzJ
    refine lv_istore (lv' := [(5, .int (iI (bI (okBB b u c)))), (0, .ref (ix 100)), (1, .int (iI (b))), (2, .int (iI (u))), (3, .int (iI (c))), (4, .int (iI (v)))]) hx hb dX12_limit_26 hl (by decide) rfl (fun ls hl => ?_)
    refine lv_aload_n hx hb dX12_limit_28 rfl (lv_at hl 1 rfl) ?_
    refine lv_iload hx hb dX12_limit_29 (lv_at hl 0 rfl) ?_
    have j_2 : ∀ (zJ : Bool) (H : Heap) (locs : List Loc), zJ = (okLi b u v) → gW D B0 s_ (mW cy ix S (mX (I) (aM) (qM) (tM)) G) H locs → W p_ l e_ { frames := 5, cells := 0, slots := 0, locals := 117 } s_ m_ ([.ref (ix 100), .int (iI b), .int (iI u), .int (iI c), .int (iI v)] : List Value).toArray be_ me_ co_ H locs 0 0 (MQ be_ (gQ D B0 (fun (r : Option Value) (g : gF) => r = some (.int (iI (pLimit S b u c v).2.1)) ∧ ∃ (J : Int → Bool) (a q : Int → Int64), g = mW cy ix (pLimit S b u c v).2.2 (mX J a q (pLimit S b u c v).1) G)) ([.ref (ix 100), .int (iI b), .int (iI u), .int (iI c), .int (iI v)] : List Value).toArray s_ 0 0 (fun q : Nat => B0 ≤ q)) (F0 m_ 52 ls [.int (iI (bI (zJ))), .int (iI (bI (okBB b u c))), .ref (ix 100)]) := by
      intro zJ H locs hzJ hW
      subst hzJ
      refine xi_iconst hx hb dX12_limit_52 ?_
      refine g_callV (i := 0) (As := [.int (iI (bI (okBB b u c))), .int (iI (bI (okLi b u v))), .int (iI (1))]) (rest := []) K (c_M_goes (okBB b u c) (okLi b u v) (true)) (cwV 3 hts gM_X12_goes rfl rfl rfl (by decide +kernel) ⟨Nat.le_of_ble_eq_true rfl, Nat.le_of_ble_eq_true rfl⟩) hK hW (mW_0 _ _ _ _ _) rfl rfl hl.1 rfl (Nat.le_of_ble_eq_true rfl) dX12_limit_53 ⟨Nat.le_refl _, Nat.le_refl _⟩ (fun v_ f_ H locs hp hW => ?_)
      obtain ⟨hpv, hpe⟩ := hp
      rw [hpe] at hW
      subst hpv
      refine xi_ifb_ne (tgt := 61) hx hb dX12_limit_56 (by decide) (fun c_3 => ?_) (fun c_3 => ?_)
      · have hg := c_3
        simp only [okBB, okLi, sIn, Bool.and_eq_true, Bool.or_eq_true, decide_eq_true_eq, Bool.not_eq_true', decide_eq_false_iff_not, and_true, true_and] at hg
        have h80 := wf_8 hwf 0
        refine lv_aload_n hx hb dX12_limit_61 rfl (lv_at hl 1 rfl) ?_
        refine mr_get K hK hW hin 3 (by decide) lM_limit (v := .ref (ix 103)) rfl dX12_limit_62 ?_
        refine lv_iload_n hx hb dX12_limit_65 rfl (lv_at hl 2 rfl) ?_
        refine lv_iload_n hx hb dX12_limit_66 rfl (lv_at hl 3 rfl) ?_
        refine lv_iload_n hx hb dX12_limit_67 rfl (lv_at hl 4 rfl) ?_
        refine g_callS (As := [.int (iI (b)), .int (iI (u)), .int (iI (c))]) (rest := [.ref (ix 103)]) K (c_M_pair (b) (u) (c)) (va_cwS 3 hts gM_X12_pair rfl rfl rfl (by decide +kernel) ⟨Nat.le_of_ble_eq_true rfl, Nat.le_of_ble_eq_true rfl⟩) hK hW rfl hl.1 rfl (Nat.le_of_ble_eq_true rfl) dX12_limit_68 ⟨Nat.le_refl _, Nat.le_refl _⟩ (fun v_ f_ H locs hp hW => ?_)
        obtain ⟨hpv, hpe⟩ := hp
        rw [hpe] at hW
        subst hpv
        refine mr_iald K hK hW 3 (by decide) rfl (n := 108) rfl rfl ⟨by omega, by omega⟩ (v := S.1 3 (3 * (6 * b + u) + c)) rfl dX12_limit_71 ?_
        have w_4 := wf_3 hwf (3 * (6 * b + u) + c)
        refine lv_istore (lv' := [(6, .int (iI (S.1 3 (3 * (6 * b + u) + c)))), (5, .int (iI (bI (okBB b u c)))), (0, .ref (ix 100)), (1, .int (iI (b))), (2, .int (iI (u))), (3, .int (iI (c))), (4, .int (iI (v)))]) hx hb dX12_limit_72 hl (by decide) rfl (fun ls hl => ?_)
        refine lv_aload_n hx hb dX12_limit_74 rfl (lv_at hl 2 rfl) ?_
        refine mr_get K hK hW hin 3 (by decide) lM_limit (v := .ref (ix 103)) rfl dX12_limit_75 ?_
        refine lv_iload_n hx hb dX12_limit_78 rfl (lv_at hl 3 rfl) ?_
        refine lv_iload_n hx hb dX12_limit_79 rfl (lv_at hl 4 rfl) ?_
        refine lv_iload_n hx hb dX12_limit_80 rfl (lv_at hl 5 rfl) ?_
        refine g_callS (As := [.int (iI (b)), .int (iI (u)), .int (iI (c))]) (rest := [.ref (ix 103)]) K (c_M_pair (b) (u) (c)) (va_cwS 3 hts gM_X12_pair rfl rfl rfl (by decide +kernel) ⟨Nat.le_of_ble_eq_true rfl, Nat.le_of_ble_eq_true rfl⟩) hK hW rfl hl.1 rfl (Nat.le_of_ble_eq_true rfl) dX12_limit_81 ⟨Nat.le_refl _, Nat.le_refl _⟩ (fun v_ f_ H locs hp hW => ?_)
        obtain ⟨hpv, hpe⟩ := hp
        rw [hpe] at hW
        subst hpv
        refine lv_iload hx hb dX12_limit_84 (lv_at hl 6 rfl) ?_
        refine mr_iast K hK hW 3 (by decide) rfl (n := 108) rfl rfl ⟨by omega, by omega⟩ dX12_limit_86 (fun H locs hW => ?_)
        refine lv_aload_n hx hb dX12_limit_87 rfl (lv_at hl 2 rfl) ?_
        refine g_callV (i := 0) (As := []) (rest := []) K (c_M_runs (okS_pI ho (f := 3) (3 * (6 * b + u) + c) v (by decide) ⟨by simp only [rLo]; omega, by simp only [rHi]; omega⟩)) (cwV 0 hts gM_X12_runs rfl rfl rfl (by decide +kernel) ⟨Nat.le_of_ble_eq_true rfl, Nat.le_of_ble_eq_true rfl⟩) hK hW (mW_0 _ _ _ _ _) rfl rfl hl.1 rfl (Nat.le_of_ble_eq_true rfl) dX12_limit_88 ⟨Nat.le_refl _, Nat.le_refl _⟩ (fun v_ f_ H locs hp hW => ?_)
        obtain ⟨hpv, J, a, q, hpe⟩ := hp
        rw [hpe] at hW
        subst hpv
        refine lv_istore (lv' := [(7, .int (iI ((sRuns (pI S 3 (3 * (6 * b + u) + c) (v))).1))), (6, .int (iI (S.1 3 (3 * (6 * b + u) + c)))), (5, .int (iI (bI (okBB b u c)))), (0, .ref (ix 100)), (1, .int (iI (b))), (2, .int (iI (u))), (3, .int (iI (c))), (4, .int (iI (v)))]) hx hb dX12_limit_91 hl (by decide) rfl (fun ls hl => ?_)
        refine lv_iload hx hb dX12_limit_93 (lv_at hl 1 rfl) ?_
        exact g_iret hx hb hr hW ⟨by rw [pLimit, if_pos c_3], _, _, _, by rw [pLimit, if_pos c_3]⟩ dX12_limit_95 hlk
      · refine xi_iconst hx hb dX12_limit_59 ?_
        exact g_iret hx hb hr hW ⟨by rw [pLimit, if_neg (by rw [c_3]; decide)], _, _, _, by rw [pLimit, if_neg (by rw [c_3]; decide)]⟩ dX12_limit_60 hlk
    refine lv_iload_n hx hb dX12_limit_31 rfl (lv_at hl 2 rfl) ?_
    refine lv_iload_n hx hb dX12_limit_32 rfl (lv_at hl 3 rfl) ?_
    refine xi_icmp_eq (tgt := 51) hx hb ⟨by omega, by omega⟩ ⟨by omega, by omega⟩ dX12_limit_33 (by decide) (fun c_5 => ?_) (fun c_5 => ?_)
    · refine xi_iconst hx hb dX12_limit_51 ?_
      exact xi_eq (z' := bI (okLi b u v)) (bI_f (by simp only [okLi, c_5, decide_true, decide_false, Bool.true_and, Bool.and_true, Bool.false_and, Bool.and_false, Bool.true_or, Bool.or_true, Bool.false_or, Bool.or_false, Bool.not_true, Bool.not_false, eq_self])) (j_2 _ _ _ rfl hW)
    · refine lv_iload hx hb dX12_limit_36 (lv_at hl 5 rfl) ?_
      refine xi_iconst hx hb dX12_limit_38 ?_
      refine xi_ldc hx hb 1000000 (by decide) hown (hts _ kM_192) dX12_limit_39 ?_
      refine g_callS (As := [.int (iI (v)), .int (iI ((-1))), .int (iI (1000000))]) (rest := [.int (iI (bI (okBB b u c))), .ref (ix 100)]) K (c_M_in (v) ((-1)) (1000000) ⟨by omega, by omega⟩ ⟨by omega, by omega⟩ ⟨by omega, by omega⟩) (va_cwS 3 hts gM_X12_in rfl rfl rfl (by decide +kernel) ⟨Nat.le_of_ble_eq_true rfl, Nat.le_of_ble_eq_true rfl⟩) hK hW rfl hl.1 rfl (Nat.le_of_ble_eq_true rfl) dX12_limit_41 ⟨Nat.le_refl _, Nat.le_refl _⟩ (fun v_ f_ H locs hp hW => ?_)
      obtain ⟨hpv, hpe⟩ := hp
      rw [hpe] at hW
      subst hpv
      refine xi_ifb_eq (tgt := 51) hx hb dX12_limit_44 (by decide) (fun c_6 => ?_) (fun c_6 => ?_)
      · refine xi_iconst hx hb dX12_limit_51 ?_
        exact xi_eq (z' := bI (okLi b u v)) (bI_f (by simp only [okLi, c_5, c_6, decide_true, decide_false, Bool.true_and, Bool.and_true, Bool.false_and, Bool.and_false, Bool.true_or, Bool.or_true, Bool.false_or, Bool.or_false, Bool.not_true, Bool.not_false, eq_self])) (j_2 _ _ _ rfl hW)
      · refine xi_iconst hx hb dX12_limit_47 ?_
        refine lv_goto (tgt := 52) hx hb dX12_limit_48 (by decide) ?_
        exact xi_eq (z' := bI (okLi b u v)) (bI_t (by simp only [okLi, c_5, c_6, decide_true, decide_false, Bool.true_and, Bool.and_true, Bool.false_and, Bool.and_false, Bool.true_or, Bool.or_true, Bool.false_or, Bool.or_false, Bool.not_true, Bool.not_false, eq_self])) (j_2 _ _ _ rfl hW)
  refine lv_iload_n hx hb dX12_limit_0 rfl (lv_at hl 1 rfl) ?_
  refine g_callS (As := [.int (iI (b))]) (rest := []) K (c_M_isBank (b) ⟨by omega, by omega⟩) (va_cwS 1 hts gM_X12_isBank rfl rfl rfl (by decide +kernel) ⟨Nat.le_of_ble_eq_true rfl, Nat.le_of_ble_eq_true rfl⟩) hK hW rfl hl.1 rfl (Nat.le_of_ble_eq_true rfl) dX12_limit_1 ⟨Nat.le_refl _, Nat.le_refl _⟩ (fun v_ f_ H locs hp hW => ?_)
  obtain ⟨hpv, hpe⟩ := hp
  rw [hpe] at hW
  subst hpv
  refine xi_ifb_eq (tgt := 25) hx hb dX12_limit_4 (by decide) (fun c_7 => ?_) (fun c_7 => ?_)
  · refine xi_iconst hx hb dX12_limit_25 ?_
    exact xi_eq (z' := bI (okBB b u c)) (bI_f (by simp only [okBB, c_7, decide_true, decide_false, Bool.true_and, Bool.and_true, Bool.false_and, Bool.and_false, Bool.true_or, Bool.or_true, Bool.false_or, Bool.or_false, Bool.not_true, Bool.not_false, eq_self])) (j_1 _ _ _ rfl hW)
  · refine lv_iload_n hx hb dX12_limit_7 rfl (lv_at hl 2 rfl) ?_
    refine g_callS (As := [.int (iI (u))]) (rest := []) K (c_M_isBank (u) ⟨by omega, by omega⟩) (va_cwS 1 hts gM_X12_isBank rfl rfl rfl (by decide +kernel) ⟨Nat.le_of_ble_eq_true rfl, Nat.le_of_ble_eq_true rfl⟩) hK hW rfl hl.1 rfl (Nat.le_of_ble_eq_true rfl) dX12_limit_8 ⟨Nat.le_refl _, Nat.le_refl _⟩ (fun v_ f_ H locs hp hW => ?_)
    obtain ⟨hpv, hpe⟩ := hp
    rw [hpe] at hW
    subst hpv
    refine xi_ifb_eq (tgt := 25) hx hb dX12_limit_11 (by decide) (fun c_8 => ?_) (fun c_8 => ?_)
    · refine xi_iconst hx hb dX12_limit_25 ?_
      exact xi_eq (z' := bI (okBB b u c)) (bI_f (by simp only [okBB, c_7, c_8, decide_true, decide_false, Bool.true_and, Bool.and_true, Bool.false_and, Bool.and_false, Bool.true_or, Bool.or_true, Bool.false_or, Bool.or_false, Bool.not_true, Bool.not_false, eq_self])) (j_1 _ _ _ rfl hW)
    · refine lv_iload_n hx hb dX12_limit_14 rfl (lv_at hl 3 rfl) ?_
      refine g_callS (As := [.int (iI (c))]) (rest := []) K (c_M_isCurrency (c) ⟨by omega, by omega⟩) (va_cwS 1 hts gM_X12_isCurrency rfl rfl rfl (by decide +kernel) ⟨Nat.le_of_ble_eq_true rfl, Nat.le_of_ble_eq_true rfl⟩) hK hW rfl hl.1 rfl (Nat.le_of_ble_eq_true rfl) dX12_limit_15 ⟨Nat.le_refl _, Nat.le_refl _⟩ (fun v_ f_ H locs hp hW => ?_)
      obtain ⟨hpv, hpe⟩ := hp
      rw [hpe] at hW
      subst hpv
      refine xi_ifb_eq (tgt := 25) hx hb dX12_limit_18 (by decide) (fun c_9 => ?_) (fun c_9 => ?_)
      · refine xi_iconst hx hb dX12_limit_25 ?_
        exact xi_eq (z' := bI (okBB b u c)) (bI_f (by simp only [okBB, c_7, c_8, c_9, decide_true, decide_false, Bool.true_and, Bool.and_true, Bool.false_and, Bool.and_false, Bool.true_or, Bool.or_true, Bool.false_or, Bool.or_false, Bool.not_true, Bool.not_false, eq_self])) (j_1 _ _ _ rfl hW)
      · refine xi_iconst hx hb dX12_limit_21 ?_
        refine lv_goto (tgt := 26) hx hb dX12_limit_22 (by decide) ?_
        exact xi_eq (z' := bI (okBB b u c)) (bI_t (by simp only [okBB, c_7, c_8, c_9, decide_true, decide_false, Bool.true_and, Bool.and_true, Bool.false_and, Bool.and_false, Bool.true_or, Bool.or_true, Bool.false_or, Bool.or_false, Bool.not_true, Bool.not_false, eq_self])) (j_1 _ _ _ rfl hW)
set_option maxHeartbeats 4000000 in
set_option maxRecDepth 100000 in
theorem c_M_out {l : Launch} {D : va_G} {cy : Nat → ClassId} {B0 : Nat} {ix : Nat → Nat} {S : ST} {I : Int → Bool} {aM qM : Int → Int64} {tM : Int} {G : gF} (b : Int) (is : Bool) (h_b : rI b) (ho : okS S)  : gM l yX12_out vX12_out 5 117 D cy B0 [.ref (ix 100), .int (iI b), .int (iI (bI is))] (mW cy ix S (mX I aM qM tM) G) (fun r g => r = some (.int (iI (pOut S b is).2.1)) ∧ ∃ (J : Int → Bool) (a q : Int → Int64), g = mW cy ix (pOut S b is).2.2 (mX J a q (pOut S b is).1) G) 0 0 := by
  refine g_start (cc := cX12_out) (maxL := 5) (ret := (some .boolean)) (by decide) rfl (Nat.le_of_ble_eq_true rfl) ?_
  intro p_ e_ s_ m_ be_ me_ co_ ls H locs K hr hlk hnm hK hW hl
  have hin : ∀ w ∈ wsX120, w ∈ vX12_out := wsM_cls
  obtain ⟨hx, hb, hml, hown, hts⟩ := id K
  have hl : lv_has ls 5 [(0, .ref (ix 100)), (1, .int (iI (b))), (2, .int (iI (bI (is))))] := hl
  have hwf : wf S := ho.1
  have his := bI_01 is
  refine lv_aload_n hx hb dX12_out_0 rfl (lv_at hl 0 rfl) ?_
  refine lv_iload_n hx hb dX12_out_1 rfl (lv_at hl 1 rfl) ?_
  refine g_callS (As := [.int (iI (b))]) (rest := [.ref (ix 100)]) K (c_M_isBank (b) ⟨by omega, by omega⟩) (va_cwS 1 hts gM_X12_isBank rfl rfl rfl (by decide +kernel) ⟨Nat.le_of_ble_eq_true rfl, Nat.le_of_ble_eq_true rfl⟩) hK hW rfl hl.1 rfl (Nat.le_of_ble_eq_true rfl) dX12_out_2 ⟨Nat.le_refl _, Nat.le_refl _⟩ (fun v_ f_ H locs hp hW => ?_)
  obtain ⟨hpv, hpe⟩ := hp
  rw [hpe] at hW
  subst hpv
  refine xi_iconst hx hb dX12_out_5 ?_
  refine xi_iconst hx hb dX12_out_6 ?_
  refine g_callV (i := 0) (As := [.int (iI (bI (sIn (b) 0 5))), .int (iI (1)), .int (iI (1))]) (rest := []) K (c_M_goes (sIn (b) 0 5) (true) (true)) (cwV 3 hts gM_X12_goes rfl rfl rfl (by decide +kernel) ⟨Nat.le_of_ble_eq_true rfl, Nat.le_of_ble_eq_true rfl⟩) hK hW (mW_0 _ _ _ _ _) rfl rfl hl.1 rfl (Nat.le_of_ble_eq_true rfl) dX12_out_7 ⟨Nat.le_refl _, Nat.le_refl _⟩ (fun v_ f_ H locs hp hW => ?_)
  obtain ⟨hpv, hpe⟩ := hp
  rw [hpe] at hW
  subst hpv
  refine xi_ifb_ne (tgt := 15) hx hb dX12_out_10 (by decide) (fun c_1 => ?_) (fun c_1 => ?_)
  · have hg := c_1
    simp only [sIn, Bool.and_eq_true, Bool.or_eq_true, decide_eq_true_eq, Bool.not_eq_true', decide_eq_false_iff_not, and_true, true_and] at hg
    have h80 := wf_8 hwf 0
    refine lv_aload_n hx hb dX12_out_15 rfl (lv_at hl 0 rfl) ?_
    refine mr_get K hK hW hin 5 (by decide) lM_isOut (v := .ref (ix 105)) rfl dX12_out_16 ?_
    refine lv_iload_n hx hb dX12_out_19 rfl (lv_at hl 1 rfl) ?_
    refine mr_zald K hK hW 5 (by decide) rfl (n := 6) rfl rfl ⟨by omega, by omega⟩ (v := S.1 5 (b)) rfl dX12_out_20 ?_
    have w_2 := wf_5 hwf (b)
    refine lv_istore_n (lv' := [(3, .int (iI (S.1 5 (b)))), (0, .ref (ix 100)), (1, .int (iI (b))), (2, .int (iI (bI (is))))]) hx hb dX12_out_21 rfl hl (by decide) rfl (fun ls hl => ?_)
    refine lv_aload_n hx hb dX12_out_22 rfl (lv_at hl 1 rfl) ?_
    refine mr_get K hK hW hin 5 (by decide) lM_isOut (v := .ref (ix 105)) rfl dX12_out_23 ?_
    refine lv_iload_n hx hb dX12_out_26 rfl (lv_at hl 2 rfl) ?_
    refine lv_iload_n hx hb dX12_out_27 rfl (lv_at hl 3 rfl) ?_
    refine mr_zast K hK hW 5 (by decide) rfl (by decide) (n := 6) rfl rfl ⟨by omega, by omega⟩ (bI_01 _) dX12_out_28 (fun H locs hW => ?_)
    refine lv_aload_n hx hb dX12_out_29 rfl (lv_at hl 1 rfl) ?_
    refine g_callV (i := 0) (As := []) (rest := []) K (c_M_runs (okS_pI ho (f := 5) b (bI is) (by decide) ⟨by simp only [rLo]; omega, by simp only [rHi]; omega⟩)) (cwV 0 hts gM_X12_runs rfl rfl rfl (by decide +kernel) ⟨Nat.le_of_ble_eq_true rfl, Nat.le_of_ble_eq_true rfl⟩) hK hW (mW_0 _ _ _ _ _) rfl rfl hl.1 rfl (Nat.le_of_ble_eq_true rfl) dX12_out_30 ⟨Nat.le_refl _, Nat.le_refl _⟩ (fun v_ f_ H locs hp hW => ?_)
    obtain ⟨hpv, J, a, q, hpe⟩ := hp
    rw [hpe] at hW
    subst hpv
    refine lv_istore (lv' := [(4, .int (iI ((sRuns (pI S 5 (b) (bI (is)))).1))), (3, .int (iI (S.1 5 (b)))), (0, .ref (ix 100)), (1, .int (iI (b))), (2, .int (iI (bI (is))))]) hx hb dX12_out_33 hl (by decide) rfl (fun ls hl => ?_)
    refine lv_iload_n hx hb dX12_out_35 rfl (lv_at hl 1 rfl) ?_
    exact g_zret hx hb hr (by omega) hW ⟨by rw [pOut, if_pos c_1], _, _, _, by rw [pOut, if_pos c_1]⟩ dX12_out_36 hlk
  · refine xi_iconst hx hb dX12_out_13 ?_
    exact g_zret hx hb hr (Or.inl rfl) hW ⟨by rw [pOut, if_neg (by rw [c_1]; decide)], _, _, _, by rw [pOut, if_neg (by rw [c_1]; decide)]⟩ dX12_out_14 hlk
set_option maxHeartbeats 4000000 in
set_option maxRecDepth 100000 in
theorem c_M_holiday {l : Launch} {D : va_G} {cy : Nat → ClassId} {B0 : Nat} {ix : Nat → Nat} {S : ST} {I : Int → Bool} {aM qM : Int → Int64} {tM : Int} {G : gF} (c : Int) (d : Int) (is : Bool) (h_c : rI c) (h_d : rI d) (ho : okS S)  : gM l yX12_holiday vX12_holiday 5 117 D cy B0 [.ref (ix 100), .int (iI c), .int (iI d), .int (iI (bI is))] (mW cy ix S (mX I aM qM tM) G) (fun r g => r = some (.int (iI (pHoli S c d is).2.1)) ∧ ∃ (J : Int → Bool) (a q : Int → Int64), g = mW cy ix (pHoli S c d is).2.2 (mX J a q (pHoli S c d is).1) G) 0 0 := by
  refine g_start (cc := cX12_holiday) (maxL := 5) (ret := (some .boolean)) (by decide) rfl (Nat.le_of_ble_eq_true rfl) ?_
  intro p_ e_ s_ m_ be_ me_ co_ ls H locs K hr hlk hnm hK hW hl
  have hin : ∀ w ∈ wsX120, w ∈ vX12_holiday := wsM_cls
  obtain ⟨hx, hb, hml, hown, hts⟩ := id K
  have hl : lv_has ls 5 [(0, .ref (ix 100)), (1, .int (iI (c))), (2, .int (iI (d))), (3, .int (iI (bI (is))))] := hl
  have hwf : wf S := ho.1
  have his := bI_01 is
  refine lv_aload_n hx hb dX12_holiday_0 rfl (lv_at hl 0 rfl) ?_
  refine lv_iload_n hx hb dX12_holiday_1 rfl (lv_at hl 1 rfl) ?_
  refine g_callS (As := [.int (iI (c))]) (rest := [.ref (ix 100)]) K (c_M_isCurrency (c) ⟨by omega, by omega⟩) (va_cwS 1 hts gM_X12_isCurrency rfl rfl rfl (by decide +kernel) ⟨Nat.le_of_ble_eq_true rfl, Nat.le_of_ble_eq_true rfl⟩) hK hW rfl hl.1 rfl (Nat.le_of_ble_eq_true rfl) dX12_holiday_2 ⟨Nat.le_refl _, Nat.le_refl _⟩ (fun v_ f_ H locs hp hW => ?_)
  obtain ⟨hpv, hpe⟩ := hp
  rw [hpe] at hW
  subst hpv
  refine lv_iload_n hx hb dX12_holiday_5 rfl (lv_at hl 2 rfl) ?_
  refine xi_iconst hx hb dX12_holiday_6 ?_
  refine xi_sipush hx hb dX12_holiday_7 (by decide) ?_
  refine g_callS (As := [.int (iI (d)), .int (iI (0)), .int (iI (999))]) (rest := [.int (iI (bI (sIn (c) 0 2))), .ref (ix 100)]) K (c_M_in (d) (0) (999) ⟨by omega, by omega⟩ ⟨by omega, by omega⟩ ⟨by omega, by omega⟩) (va_cwS 3 hts gM_X12_in rfl rfl rfl (by decide +kernel) ⟨Nat.le_of_ble_eq_true rfl, Nat.le_of_ble_eq_true rfl⟩) hK hW rfl hl.1 rfl (Nat.le_of_ble_eq_true rfl) dX12_holiday_10 ⟨Nat.le_refl _, Nat.le_refl _⟩ (fun v_ f_ H locs hp hW => ?_)
  obtain ⟨hpv, hpe⟩ := hp
  rw [hpe] at hW
  subst hpv
  refine xi_iconst hx hb dX12_holiday_13 ?_
  refine g_callV (i := 0) (As := [.int (iI (bI (sIn (c) 0 2))), .int (iI (bI (sIn (d) (0) (999)))), .int (iI (1))]) (rest := []) K (c_M_goes (sIn (c) 0 2) (sIn (d) (0) (999)) (true)) (cwV 3 hts gM_X12_goes rfl rfl rfl (by decide +kernel) ⟨Nat.le_of_ble_eq_true rfl, Nat.le_of_ble_eq_true rfl⟩) hK hW (mW_0 _ _ _ _ _) rfl rfl hl.1 rfl (Nat.le_of_ble_eq_true rfl) dX12_holiday_14 ⟨Nat.le_refl _, Nat.le_refl _⟩ (fun v_ f_ H locs hp hW => ?_)
  obtain ⟨hpv, hpe⟩ := hp
  rw [hpe] at hW
  subst hpv
  refine xi_ifb_ne (tgt := 22) hx hb dX12_holiday_17 (by decide) (fun c_1 => ?_) (fun c_1 => ?_)
  · have hg := c_1
    simp only [sIn, Bool.and_eq_true, Bool.or_eq_true, decide_eq_true_eq, Bool.not_eq_true', decide_eq_false_iff_not, and_true, true_and] at hg
    have h80 := wf_8 hwf 0
    refine lv_aload_n hx hb dX12_holiday_22 rfl (lv_at hl 0 rfl) ?_
    refine mr_get K hK hW hin 6 (by decide) lM_isHoliday (v := .ref (ix 106)) rfl dX12_holiday_23 ?_
    refine xi_sipush hx hb dX12_holiday_26 (by decide) ?_
    refine lv_iload_n hx hb dX12_holiday_29 rfl (lv_at hl 1 rfl) ?_
    refine xi_imul hx hb dX12_holiday_30 ?_
    refine lv_iload_n hx hb dX12_holiday_31 rfl (lv_at hl 2 rfl) ?_
    refine xi_iadd hx hb dX12_holiday_32 ?_
    refine lv_iload_n hx hb dX12_holiday_33 rfl (lv_at hl 3 rfl) ?_
    refine mr_zast K hK hW 6 (by decide) rfl (by decide) (n := 3000) rfl rfl ⟨by omega, by omega⟩ (bI_01 _) dX12_holiday_34 (fun H locs hW => ?_)
    refine lv_aload_n hx hb dX12_holiday_35 rfl (lv_at hl 0 rfl) ?_
    refine g_callV (i := 0) (As := []) (rest := []) K (c_M_runs (okS_pI ho (f := 6) (1000 * c + d) (bI is) (by decide) ⟨by simp only [rLo]; omega, by simp only [rHi]; omega⟩)) (cwV 0 hts gM_X12_runs rfl rfl rfl (by decide +kernel) ⟨Nat.le_of_ble_eq_true rfl, Nat.le_of_ble_eq_true rfl⟩) hK hW (mW_0 _ _ _ _ _) rfl rfl hl.1 rfl (Nat.le_of_ble_eq_true rfl) dX12_holiday_36 ⟨Nat.le_refl _, Nat.le_refl _⟩ (fun v_ f_ H locs hp hW => ?_)
    obtain ⟨hpv, J, a, q, hpe⟩ := hp
    rw [hpe] at hW
    subst hpv
    refine lv_istore (lv' := [(4, .int (iI ((sRuns (pI S 6 ((1000 * c) + d) (bI (is)))).1))), (0, .ref (ix 100)), (1, .int (iI (c))), (2, .int (iI (d))), (3, .int (iI (bI (is))))]) hx hb dX12_holiday_39 hl (by decide) rfl (fun ls hl => ?_)
    refine lv_aload_n hx hb dX12_holiday_41 rfl (lv_at hl 1 rfl) ?_
    refine lv_iload_n hx hb dX12_holiday_42 rfl (lv_at hl 2 rfl) ?_
    refine lv_iload_n hx hb dX12_holiday_43 rfl (lv_at hl 3 rfl) ?_
    refine g_callV (i := 0) (As := [.int (iI (c)), .int (iI (d))]) (rest := []) K (c_M_isOpen (c) (d) ⟨by omega, by omega⟩ ⟨by omega, by omega⟩ (sRuns_ok (okS_pI ho (f := 6) (1000 * c + d) (bI is) (by decide) ⟨by simp only [rLo]; omega, by simp only [rHi]; omega⟩)).1.1) (cwV 2 hts gM_X12_isOpen rfl rfl rfl (by decide +kernel) ⟨Nat.le_of_ble_eq_true rfl, Nat.le_of_ble_eq_true rfl⟩) hK hW (mW_0 _ _ _ _ _) rfl rfl hl.1 rfl (Nat.le_of_ble_eq_true rfl) dX12_holiday_44 ⟨Nat.le_refl _, Nat.le_refl _⟩ (fun v_ f_ H locs hp hW => ?_)
    obtain ⟨hpv, hpe⟩ := hp
    rw [hpe] at hW
    have hpv : v_ = some (.int (iI (bI (sOpen ((sRuns (pI S 6 ((1000 * c) + d) (bI (is)))).2) (c) (d))))) := hpv
    subst hpv
    exact g_zret hx hb hr (bI_01 _) hW ⟨by rw [pHoli, if_pos c_1], _, _, _, by rw [pHoli, if_pos c_1]⟩ dX12_holiday_47 hlk
  · refine xi_iconst hx hb dX12_holiday_20 ?_
    exact g_zret hx hb hr (Or.inl rfl) hW ⟨by rw [pHoli, if_neg (by rw [c_1]; decide)], _, _, _, by rw [pHoli, if_neg (by rw [c_1]; decide)]⟩ dX12_holiday_21 hlk
set_option maxHeartbeats 4000000 in
set_option maxRecDepth 100000 in
theorem c_M_doubles {l : Launch} {D : va_G} {cy : Nat → ClassId} {B0 : Nat} {ix : Nat → Nat} {S : ST} {I : Int → Bool} {aM qM : Int → Int64} {tM : Int} {G : gF}  (hwf : wf S) : gM l yX12_doubles vX12_doubles 0 0 D cy B0 [.ref (ix 100)] (mW cy ix S (mX I aM qM tM) G) (fun r g => r = some (.int (iI (S.1 26 0))) ∧ g = mW cy ix S (mX I aM qM 0) G) 0 0 := by
  refine g_start (cc := cX12_doubles) (maxL := 1) (ret := (some .int)) (by decide) rfl (Nat.le_of_ble_eq_true rfl) ?_
  intro p_ e_ s_ m_ be_ me_ co_ ls H locs K hr hlk hnm hK hW hl
  have hin : ∀ w ∈ wsX120, w ∈ vX12_doubles := wsM_cls
  obtain ⟨hx, hb, hml, hown, hts⟩ := id K
  have hl : lv_has ls 1 [(0, .ref (ix 100))] := hl
  refine lv_aload_n hx hb dX12_doubles_0 rfl (lv_at hl 0 rfl) ?_
  refine xi_iconst hx hb dX12_doubles_1 ?_
  refine mr_put K hK hW hin 36 (by decide) lM_thrown rfl rfl (S' := S) (X' := (mX (I) (aM) (qM) (0))) rfl (fun i hi => mC_t hi) dX12_doubles_2 (fun H locs hW => ?_)
  refine lv_aload_n hx hb dX12_doubles_5 rfl (lv_at hl 0 rfl) ?_
  refine mr_get K hK hW hin 26 (by decide) lM_doubles (v := .int (iI (S.1 26 (0)))) rfl dX12_doubles_6 ?_
  have w_w_1 := wf_26 hwf 0
  exact g_iret hx hb hr hW ⟨rfl, rfl⟩ dX12_doubles_9 hlk
set_option maxHeartbeats 4000000 in
set_option maxRecDepth 100000 in
theorem c_M_today {l : Launch} {D : va_G} {cy : Nat → ClassId} {B0 : Nat} {ix : Nat → Nat} {S : ST} {I : Int → Bool} {aM qM : Int → Int64} {tM : Int} {G : gF}  (hwf : wf S) : gM l yX12_today vX12_today 0 0 D cy B0 [.ref (ix 100)] (mW cy ix S (mX I aM qM tM) G) (fun r g => r = some (.int (iI (S.1 0 0))) ∧ g = mW cy ix S (mX I aM qM 0) G) 0 0 := by
  refine g_start (cc := cX12_today) (maxL := 1) (ret := (some .int)) (by decide) rfl (Nat.le_of_ble_eq_true rfl) ?_
  intro p_ e_ s_ m_ be_ me_ co_ ls H locs K hr hlk hnm hK hW hl
  have hin : ∀ w ∈ wsX120, w ∈ vX12_today := wsM_cls
  obtain ⟨hx, hb, hml, hown, hts⟩ := id K
  have hl : lv_has ls 1 [(0, .ref (ix 100))] := hl
  refine lv_aload_n hx hb dX12_today_0 rfl (lv_at hl 0 rfl) ?_
  refine xi_iconst hx hb dX12_today_1 ?_
  refine mr_put K hK hW hin 36 (by decide) lM_thrown rfl rfl (S' := S) (X' := (mX (I) (aM) (qM) (0))) rfl (fun i hi => mC_t hi) dX12_today_2 (fun H locs hW => ?_)
  refine lv_aload_n hx hb dX12_today_5 rfl (lv_at hl 0 rfl) ?_
  refine mr_get K hK hW hin 0 (by decide) lM_today (v := .int (iI (S.1 0 (0)))) rfl dX12_today_6 ?_
  have w_w_1 := wf_0 hwf 0
  exact g_iret hx hb hr hW ⟨rfl, rfl⟩ dX12_today_9 hlk
set_option maxHeartbeats 4000000 in
set_option maxRecDepth 100000 in
theorem c_M_payments {l : Launch} {D : va_G} {cy : Nat → ClassId} {B0 : Nat} {ix : Nat → Nat} {S : ST} {I : Int → Bool} {aM qM : Int → Int64} {tM : Int} {G : gF}  (hwf : wf S) : gM l yX12_payments vX12_payments 0 0 D cy B0 [.ref (ix 100)] (mW cy ix S (mX I aM qM tM) G) (fun r g => r = some (.int (iI (S.1 8 0))) ∧ g = mW cy ix S (mX I aM qM 0) G) 0 0 := by
  refine g_start (cc := cX12_payments) (maxL := 1) (ret := (some .int)) (by decide) rfl (Nat.le_of_ble_eq_true rfl) ?_
  intro p_ e_ s_ m_ be_ me_ co_ ls H locs K hr hlk hnm hK hW hl
  have hin : ∀ w ∈ wsX120, w ∈ vX12_payments := wsM_cls
  obtain ⟨hx, hb, hml, hown, hts⟩ := id K
  have hl : lv_has ls 1 [(0, .ref (ix 100))] := hl
  refine lv_aload_n hx hb dX12_payments_0 rfl (lv_at hl 0 rfl) ?_
  refine xi_iconst hx hb dX12_payments_1 ?_
  refine mr_put K hK hW hin 36 (by decide) lM_thrown rfl rfl (S' := S) (X' := (mX (I) (aM) (qM) (0))) rfl (fun i hi => mC_t hi) dX12_payments_2 (fun H locs hW => ?_)
  refine lv_aload_n hx hb dX12_payments_5 rfl (lv_at hl 0 rfl) ?_
  refine mr_get K hK hW hin 8 (by decide) lM_payments (v := .int (iI (S.1 8 (0)))) rfl dX12_payments_6 ?_
  have w_w_1 := wf_8 hwf 0
  exact g_iret hx hb hr hW ⟨rfl, rfl⟩ dX12_payments_9 hlk
set_option maxHeartbeats 4000000 in
set_option maxRecDepth 100000 in
theorem c_M_entries {l : Launch} {D : va_G} {cy : Nat → ClassId} {B0 : Nat} {ix : Nat → Nat} {S : ST} {I : Int → Bool} {aM qM : Int → Int64} {tM : Int} {G : gF}  (hwf : wf S) : gM l yX12_entries vX12_entries 0 0 D cy B0 [.ref (ix 100)] (mW cy ix S (mX I aM qM tM) G) (fun r g => r = some (.int (iI (S.1 31 0))) ∧ g = mW cy ix S (mX I aM qM 0) G) 0 0 := by
  refine g_start (cc := cX12_entries) (maxL := 1) (ret := (some .int)) (by decide) rfl (Nat.le_of_ble_eq_true rfl) ?_
  intro p_ e_ s_ m_ be_ me_ co_ ls H locs K hr hlk hnm hK hW hl
  have hin : ∀ w ∈ wsX120, w ∈ vX12_entries := wsM_cls
  obtain ⟨hx, hb, hml, hown, hts⟩ := id K
  have hl : lv_has ls 1 [(0, .ref (ix 100))] := hl
  refine lv_aload_n hx hb dX12_entries_0 rfl (lv_at hl 0 rfl) ?_
  refine xi_iconst hx hb dX12_entries_1 ?_
  refine mr_put K hK hW hin 36 (by decide) lM_thrown rfl rfl (S' := S) (X' := (mX (I) (aM) (qM) (0))) rfl (fun i hi => mC_t hi) dX12_entries_2 (fun H locs hW => ?_)
  refine lv_aload_n hx hb dX12_entries_5 rfl (lv_at hl 0 rfl) ?_
  refine mr_get K hK hW hin 31 (by decide) lM_entries (v := .int (iI (S.1 31 (0)))) rfl dX12_entries_6 ?_
  have w_w_1 := wf_31 hwf 0
  exact g_iret hx hb hr hW ⟨rfl, rfl⟩ dX12_entries_9 hlk
set_option maxHeartbeats 4000000 in
set_option maxRecDepth 100000 in
theorem c_M_account {l : Launch} {D : va_G} {cy : Nat → ClassId} {B0 : Nat} {ix : Nat → Nat} {S : ST} {I : Int → Bool} {aM qM : Int → Int64} {tM : Int} {G : gF} (b : Int) (c : Int) (h_b : rI b) (h_c : rI c) (ho : okS S)  : gM l yX12_account vX12_account 2 42 D cy B0 [.ref (ix 100), .int (iI b), .int (iI c)] (mW cy ix S (mX I aM qM tM) G) (fun r g => r = some (.long (pAcc S b c).2.1) ∧ ∃ (J : Int → Bool) (a q : Int → Int64), g = mW cy ix (pAcc S b c).2.2 (mX J a q (pAcc S b c).1) G) 0 0 := by
  refine g_start (cc := cX12_account) (maxL := 3) (ret := (some .long)) (by decide) rfl (Nat.le_of_ble_eq_true rfl) ?_
  intro p_ e_ s_ m_ be_ me_ co_ ls H locs K hr hlk hnm hK hW hl
  have hin : ∀ w ∈ wsX120, w ∈ vX12_account := wsM_cls
  obtain ⟨hx, hb, hml, hown, hts⟩ := id K
  have hl : lv_has ls 3 [(0, .ref (ix 100)), (1, .int (iI (b))), (2, .int (iI (c)))] := hl
  have hwf : wf S := ho.1
  refine lv_aload_n hx hb dX12_account_0 rfl (lv_at hl 0 rfl) ?_
  have j_1 : ∀ (zJ : Bool) (H : Heap) (locs : List Loc), zJ = (sIn b 0 6 && sIn c 0 2) → gW D B0 s_ (mW cy ix S (mX (I) (aM) (qM) (tM)) G) H locs → W p_ l e_ { frames := 2, cells := 0, slots := 0, locals := 42 } s_ m_ ([.ref (ix 100), .int (iI b), .int (iI c)] : List Value).toArray be_ me_ co_ H locs 0 0 (MQ be_ (gQ D B0 (fun (r : Option Value) (g : gF) => r = some (.long (pAcc S b c).2.1) ∧ ∃ (J : Int → Bool) (a q : Int → Int64), g = mW cy ix (pAcc S b c).2.2 (mX J a q (pAcc S b c).1) G)) ([.ref (ix 100), .int (iI b), .int (iI c)] : List Value).toArray s_ 0 0 (fun q : Nat => B0 ≤ q)) (F0 m_ 20 ls [.int (iI (bI (zJ))), .ref (ix 100)]) := by
    intro zJ H locs hzJ hW
    subst hzJ
    refine xi_iconst hx hb dX12_account_20 ?_
    refine xi_iconst hx hb dX12_account_21 ?_
    refine g_callV (i := 0) (As := [.int (iI (bI (sIn b 0 6 && sIn c 0 2))), .int (iI (1)), .int (iI (1))]) (rest := []) K (c_M_goes (sIn b 0 6 && sIn c 0 2) (true) (true)) (cwV 3 hts gM_X12_goes rfl rfl rfl (by decide +kernel) ⟨Nat.le_of_ble_eq_true rfl, Nat.le_of_ble_eq_true rfl⟩) hK hW (mW_0 _ _ _ _ _) rfl rfl hl.1 rfl (Nat.le_of_ble_eq_true rfl) dX12_account_22 ⟨Nat.le_refl _, Nat.le_refl _⟩ (fun v_ f_ H locs hp hW => ?_)
    obtain ⟨hpv, hpe⟩ := hp
    rw [hpe] at hW
    subst hpv
    refine xi_ifb_eq (tgt := 41) hx hb dX12_account_25 (by decide) (fun c_2 => ?_) (fun c_2 => ?_)
    · refine lv_lconst (v := 0) hx hb dX12_account_41 (by decide) ?_
      exact g_lret hx hb hr hW ⟨by rw [pAcc, if_neg (by rw [c_2]; decide)], _, _, _, by rw [pAcc, if_neg (by rw [c_2]; decide)]⟩ dX12_account_42 hlk
    · have hg := c_2
      simp only [sIn, Bool.and_eq_true, Bool.or_eq_true, decide_eq_true_eq, Bool.not_eq_true', decide_eq_false_iff_not, and_true, true_and] at hg
      have h80 := wf_8 hwf 0
      refine lv_aload_n hx hb dX12_account_28 rfl (lv_at hl 0 rfl) ?_
      refine mr_get K hK hW hin 1 (by decide) lM_account (v := .ref (ix 101)) rfl dX12_account_29 ?_
      refine lv_iload_n hx hb dX12_account_32 rfl (lv_at hl 1 rfl) ?_
      refine lv_iload_n hx hb dX12_account_33 rfl (lv_at hl 2 rfl) ?_
      refine g_callS (As := [.int (iI (b)), .int (iI (c))]) (rest := [.ref (ix 101)]) K (c_M_of (b) (c)) (va_cwS 2 hts gM_X12_of rfl rfl rfl (by decide +kernel) ⟨Nat.le_of_ble_eq_true rfl, Nat.le_of_ble_eq_true rfl⟩) hK hW rfl hl.1 rfl (Nat.le_of_ble_eq_true rfl) dX12_account_34 ⟨Nat.le_refl _, Nat.le_refl _⟩ (fun v_ f_ H locs hp hW => ?_)
      obtain ⟨hpv, hpe⟩ := hp
      rw [hpe] at hW
      subst hpv
      refine mr_lald K hK hW 1 (by decide) rfl (n := 21) rfl rfl ⟨by omega, by omega⟩ (v := S.2 1 (3 * b + c)) rfl dX12_account_37 ?_
      refine lv_goto (tgt := 42) hx hb dX12_account_38 (by decide) ?_
      exact g_lret hx hb hr hW ⟨by rw [pAcc, if_pos c_2], _, _, _, by rw [pAcc, if_pos c_2]⟩ dX12_account_42 hlk
  refine lv_iload_n hx hb dX12_account_1 rfl (lv_at hl 1 rfl) ?_
  refine g_callS (As := [.int (iI (b))]) (rest := [.ref (ix 100)]) K (c_M_isAccount (b) ⟨by omega, by omega⟩) (va_cwS 1 hts gM_X12_isAccount rfl rfl rfl (by decide +kernel) ⟨Nat.le_of_ble_eq_true rfl, Nat.le_of_ble_eq_true rfl⟩) hK hW rfl hl.1 rfl (Nat.le_of_ble_eq_true rfl) dX12_account_2 ⟨Nat.le_refl _, Nat.le_refl _⟩ (fun v_ f_ H locs hp hW => ?_)
  obtain ⟨hpv, hpe⟩ := hp
  rw [hpe] at hW
  subst hpv
  refine xi_ifb_eq (tgt := 19) hx hb dX12_account_5 (by decide) (fun c_3 => ?_) (fun c_3 => ?_)
  · refine xi_iconst hx hb dX12_account_19 ?_
    exact xi_eq (z' := bI (sIn b 0 6 && sIn c 0 2)) (bI_f (by simp only [c_3, decide_true, decide_false, Bool.true_and, Bool.and_true, Bool.false_and, Bool.and_false, Bool.true_or, Bool.or_true, Bool.false_or, Bool.or_false, Bool.not_true, Bool.not_false, eq_self])) (j_1 _ _ _ rfl hW)
  · refine lv_iload_n hx hb dX12_account_8 rfl (lv_at hl 2 rfl) ?_
    refine g_callS (As := [.int (iI (c))]) (rest := [.ref (ix 100)]) K (c_M_isCurrency (c) ⟨by omega, by omega⟩) (va_cwS 1 hts gM_X12_isCurrency rfl rfl rfl (by decide +kernel) ⟨Nat.le_of_ble_eq_true rfl, Nat.le_of_ble_eq_true rfl⟩) hK hW rfl hl.1 rfl (Nat.le_of_ble_eq_true rfl) dX12_account_9 ⟨Nat.le_refl _, Nat.le_refl _⟩ (fun v_ f_ H locs hp hW => ?_)
    obtain ⟨hpv, hpe⟩ := hp
    rw [hpe] at hW
    subst hpv
    refine xi_ifb_eq (tgt := 19) hx hb dX12_account_12 (by decide) (fun c_4 => ?_) (fun c_4 => ?_)
    · refine xi_iconst hx hb dX12_account_19 ?_
      exact xi_eq (z' := bI (sIn b 0 6 && sIn c 0 2)) (bI_f (by simp only [c_3, c_4, decide_true, decide_false, Bool.true_and, Bool.and_true, Bool.false_and, Bool.and_false, Bool.true_or, Bool.or_true, Bool.false_or, Bool.or_false, Bool.not_true, Bool.not_false, eq_self])) (j_1 _ _ _ rfl hW)
    · refine xi_iconst hx hb dX12_account_15 ?_
      refine lv_goto (tgt := 20) hx hb dX12_account_16 (by decide) ?_
      exact xi_eq (z' := bI (sIn b 0 6 && sIn c 0 2)) (bI_t (by simp only [c_3, c_4, decide_true, decide_false, Bool.true_and, Bool.and_true, Bool.false_and, Bool.and_false, Bool.true_or, Bool.or_true, Bool.false_or, Bool.or_false, Bool.not_true, Bool.not_false, eq_self])) (j_1 _ _ _ rfl hW)
set_option maxHeartbeats 4000000 in
set_option maxRecDepth 100000 in
theorem c_M_paid {l : Launch} {D : va_G} {cy : Nat → ClassId} {B0 : Nat} {ix : Nat → Nat} {S : ST} {I : Int → Bool} {aM qM : Int → Int64} {tM : Int} {G : gF} (b : Int) (u : Int) (c : Int) (h_b : rI b) (h_u : rI u) (h_c : rI c) (ho : okS S)  : gM l yX12_paid vX12_paid 2 42 D cy B0 [.ref (ix 100), .int (iI b), .int (iI u), .int (iI c)] (mW cy ix S (mX I aM qM tM) G) (fun r g => r = some (.long (pPaid S b u c).2.1) ∧ ∃ (J : Int → Bool) (a q : Int → Int64), g = mW cy ix (pPaid S b u c).2.2 (mX J a q (pPaid S b u c).1) G) 0 0 := by
  refine g_start (cc := cX12_paid) (maxL := 4) (ret := (some .long)) (by decide) rfl (Nat.le_of_ble_eq_true rfl) ?_
  intro p_ e_ s_ m_ be_ me_ co_ ls H locs K hr hlk hnm hK hW hl
  have hin : ∀ w ∈ wsX120, w ∈ vX12_paid := wsM_cls
  obtain ⟨hx, hb, hml, hown, hts⟩ := id K
  have hl : lv_has ls 4 [(0, .ref (ix 100)), (1, .int (iI (b))), (2, .int (iI (u))), (3, .int (iI (c)))] := hl
  have hwf : wf S := ho.1
  refine lv_aload_n hx hb dX12_paid_0 rfl (lv_at hl 0 rfl) ?_
  have j_1 : ∀ (zJ : Bool) (H : Heap) (locs : List Loc), zJ = (okBB b u c) → gW D B0 s_ (mW cy ix S (mX (I) (aM) (qM) (tM)) G) H locs → W p_ l e_ { frames := 2, cells := 0, slots := 0, locals := 42 } s_ m_ ([.ref (ix 100), .int (iI b), .int (iI u), .int (iI c)] : List Value).toArray be_ me_ co_ H locs 0 0 (MQ be_ (gQ D B0 (fun (r : Option Value) (g : gF) => r = some (.long (pPaid S b u c).2.1) ∧ ∃ (J : Int → Bool) (a q : Int → Int64), g = mW cy ix (pPaid S b u c).2.2 (mX J a q (pPaid S b u c).1) G)) ([.ref (ix 100), .int (iI b), .int (iI u), .int (iI c)] : List Value).toArray s_ 0 0 (fun q : Nat => B0 ≤ q)) (F0 m_ 27 ls [.int (iI (bI (zJ))), .ref (ix 100)]) := by
    intro zJ H locs hzJ hW
    subst hzJ
    refine xi_iconst hx hb dX12_paid_27 ?_
    refine xi_iconst hx hb dX12_paid_28 ?_
    refine g_callV (i := 0) (As := [.int (iI (bI (okBB b u c))), .int (iI (1)), .int (iI (1))]) (rest := []) K (c_M_goes (okBB b u c) (true) (true)) (cwV 3 hts gM_X12_goes rfl rfl rfl (by decide +kernel) ⟨Nat.le_of_ble_eq_true rfl, Nat.le_of_ble_eq_true rfl⟩) hK hW (mW_0 _ _ _ _ _) rfl rfl hl.1 rfl (Nat.le_of_ble_eq_true rfl) dX12_paid_29 ⟨Nat.le_refl _, Nat.le_refl _⟩ (fun v_ f_ H locs hp hW => ?_)
    obtain ⟨hpv, hpe⟩ := hp
    rw [hpe] at hW
    subst hpv
    refine xi_ifb_eq (tgt := 49) hx hb dX12_paid_32 (by decide) (fun c_2 => ?_) (fun c_2 => ?_)
    · refine lv_lconst (v := 0) hx hb dX12_paid_49 (by decide) ?_
      exact g_lret hx hb hr hW ⟨by rw [pPaid, if_neg (by rw [c_2]; decide)], _, _, _, by rw [pPaid, if_neg (by rw [c_2]; decide)]⟩ dX12_paid_50 hlk
    · have hg := c_2
      simp only [okBB, sIn, Bool.and_eq_true, Bool.or_eq_true, decide_eq_true_eq, Bool.not_eq_true', decide_eq_false_iff_not, and_true, true_and] at hg
      have h80 := wf_8 hwf 0
      refine lv_aload_n hx hb dX12_paid_35 rfl (lv_at hl 0 rfl) ?_
      refine mr_get K hK hW hin 4 (by decide) lM_paid (v := .ref (ix 104)) rfl dX12_paid_36 ?_
      refine lv_iload_n hx hb dX12_paid_39 rfl (lv_at hl 1 rfl) ?_
      refine lv_iload_n hx hb dX12_paid_40 rfl (lv_at hl 2 rfl) ?_
      refine lv_iload_n hx hb dX12_paid_41 rfl (lv_at hl 3 rfl) ?_
      refine g_callS (As := [.int (iI (b)), .int (iI (u)), .int (iI (c))]) (rest := [.ref (ix 104)]) K (c_M_pair (b) (u) (c)) (va_cwS 3 hts gM_X12_pair rfl rfl rfl (by decide +kernel) ⟨Nat.le_of_ble_eq_true rfl, Nat.le_of_ble_eq_true rfl⟩) hK hW rfl hl.1 rfl (Nat.le_of_ble_eq_true rfl) dX12_paid_42 ⟨Nat.le_refl _, Nat.le_refl _⟩ (fun v_ f_ H locs hp hW => ?_)
      obtain ⟨hpv, hpe⟩ := hp
      rw [hpe] at hW
      subst hpv
      refine mr_lald K hK hW 4 (by decide) rfl (n := 108) rfl rfl ⟨by omega, by omega⟩ (v := S.2 4 (3 * (6 * b + u) + c)) rfl dX12_paid_45 ?_
      refine lv_goto (tgt := 50) hx hb dX12_paid_46 (by decide) ?_
      exact g_lret hx hb hr hW ⟨by rw [pPaid, if_pos c_2], _, _, _, by rw [pPaid, if_pos c_2]⟩ dX12_paid_50 hlk
  refine lv_iload_n hx hb dX12_paid_1 rfl (lv_at hl 1 rfl) ?_
  refine g_callS (As := [.int (iI (b))]) (rest := [.ref (ix 100)]) K (c_M_isBank (b) ⟨by omega, by omega⟩) (va_cwS 1 hts gM_X12_isBank rfl rfl rfl (by decide +kernel) ⟨Nat.le_of_ble_eq_true rfl, Nat.le_of_ble_eq_true rfl⟩) hK hW rfl hl.1 rfl (Nat.le_of_ble_eq_true rfl) dX12_paid_2 ⟨Nat.le_refl _, Nat.le_refl _⟩ (fun v_ f_ H locs hp hW => ?_)
  obtain ⟨hpv, hpe⟩ := hp
  rw [hpe] at hW
  subst hpv
  refine xi_ifb_eq (tgt := 26) hx hb dX12_paid_5 (by decide) (fun c_3 => ?_) (fun c_3 => ?_)
  · refine xi_iconst hx hb dX12_paid_26 ?_
    exact xi_eq (z' := bI (okBB b u c)) (bI_f (by simp only [okBB, c_3, decide_true, decide_false, Bool.true_and, Bool.and_true, Bool.false_and, Bool.and_false, Bool.true_or, Bool.or_true, Bool.false_or, Bool.or_false, Bool.not_true, Bool.not_false, eq_self])) (j_1 _ _ _ rfl hW)
  · refine lv_iload_n hx hb dX12_paid_8 rfl (lv_at hl 2 rfl) ?_
    refine g_callS (As := [.int (iI (u))]) (rest := [.ref (ix 100)]) K (c_M_isBank (u) ⟨by omega, by omega⟩) (va_cwS 1 hts gM_X12_isBank rfl rfl rfl (by decide +kernel) ⟨Nat.le_of_ble_eq_true rfl, Nat.le_of_ble_eq_true rfl⟩) hK hW rfl hl.1 rfl (Nat.le_of_ble_eq_true rfl) dX12_paid_9 ⟨Nat.le_refl _, Nat.le_refl _⟩ (fun v_ f_ H locs hp hW => ?_)
    obtain ⟨hpv, hpe⟩ := hp
    rw [hpe] at hW
    subst hpv
    refine xi_ifb_eq (tgt := 26) hx hb dX12_paid_12 (by decide) (fun c_4 => ?_) (fun c_4 => ?_)
    · refine xi_iconst hx hb dX12_paid_26 ?_
      exact xi_eq (z' := bI (okBB b u c)) (bI_f (by simp only [okBB, c_3, c_4, decide_true, decide_false, Bool.true_and, Bool.and_true, Bool.false_and, Bool.and_false, Bool.true_or, Bool.or_true, Bool.false_or, Bool.or_false, Bool.not_true, Bool.not_false, eq_self])) (j_1 _ _ _ rfl hW)
    · refine lv_iload_n hx hb dX12_paid_15 rfl (lv_at hl 3 rfl) ?_
      refine g_callS (As := [.int (iI (c))]) (rest := [.ref (ix 100)]) K (c_M_isCurrency (c) ⟨by omega, by omega⟩) (va_cwS 1 hts gM_X12_isCurrency rfl rfl rfl (by decide +kernel) ⟨Nat.le_of_ble_eq_true rfl, Nat.le_of_ble_eq_true rfl⟩) hK hW rfl hl.1 rfl (Nat.le_of_ble_eq_true rfl) dX12_paid_16 ⟨Nat.le_refl _, Nat.le_refl _⟩ (fun v_ f_ H locs hp hW => ?_)
      obtain ⟨hpv, hpe⟩ := hp
      rw [hpe] at hW
      subst hpv
      refine xi_ifb_eq (tgt := 26) hx hb dX12_paid_19 (by decide) (fun c_5 => ?_) (fun c_5 => ?_)
      · refine xi_iconst hx hb dX12_paid_26 ?_
        exact xi_eq (z' := bI (okBB b u c)) (bI_f (by simp only [okBB, c_3, c_4, c_5, decide_true, decide_false, Bool.true_and, Bool.and_true, Bool.false_and, Bool.and_false, Bool.true_or, Bool.or_true, Bool.false_or, Bool.or_false, Bool.not_true, Bool.not_false, eq_self])) (j_1 _ _ _ rfl hW)
      · refine xi_iconst hx hb dX12_paid_22 ?_
        refine lv_goto (tgt := 27) hx hb dX12_paid_23 (by decide) ?_
        exact xi_eq (z' := bI (okBB b u c)) (bI_t (by simp only [okBB, c_3, c_4, c_5, decide_true, decide_false, Bool.true_and, Bool.and_true, Bool.false_and, Bool.and_false, Bool.true_or, Bool.or_true, Bool.false_or, Bool.or_false, Bool.not_true, Bool.not_false, eq_self])) (j_1 _ _ _ rfl hW)
set_option maxHeartbeats 4000000 in
set_option maxRecDepth 100000 in
theorem c_M_stateOf {l : Launch} {D : va_G} {cy : Nat → ClassId} {B0 : Nat} {ix : Nat → Nat} {S : ST} {I : Int → Bool} {aM qM : Int → Int64} {tM : Int} {G : gF} (k : Int) (h_k : rI k) (ho : okS S)  : gM l yX12_stateOf vX12_stateOf 2 43 D cy B0 [.ref (ix 100), .int (iI k)] (mW cy ix S (mX I aM qM tM) G) (fun r g => r = some (.int (iI (pStat S k).2.1)) ∧ ∃ (J : Int → Bool) (a q : Int → Int64), g = mW cy ix (pStat S k).2.2 (mX J a q (pStat S k).1) G) 0 0 := by
  refine g_start (cc := cX12_stateOf) (maxL := 2) (ret := (some .int)) (by decide) rfl (Nat.le_of_ble_eq_true rfl) ?_
  intro p_ e_ s_ m_ be_ me_ co_ ls H locs K hr hlk hnm hK hW hl
  have hin : ∀ w ∈ wsX120, w ∈ vX12_stateOf := wsM_cls
  obtain ⟨hx, hb, hml, hown, hts⟩ := id K
  have hl : lv_has ls 2 [(0, .ref (ix 100)), (1, .int (iI (k)))] := hl
  have hwf : wf S := ho.1
  refine lv_aload_n hx hb dX12_stateOf_0 rfl (lv_at hl 0 rfl) ?_
  refine lv_aload_n hx hb dX12_stateOf_1 rfl (lv_at hl 0 rfl) ?_
  refine lv_iload_n hx hb dX12_stateOf_2 rfl (lv_at hl 1 rfl) ?_
  refine g_callV (i := 0) (As := [.int (iI (k))]) (rest := [.ref (ix 100)]) K (c_M_isPayment (k) ⟨by omega, by omega⟩ hwf) (cwV 1 hts gM_X12_isPayment rfl rfl rfl (by decide +kernel) ⟨Nat.le_of_ble_eq_true rfl, Nat.le_of_ble_eq_true rfl⟩) hK hW (mW_0 _ _ _ _ _) rfl rfl hl.1 rfl (Nat.le_of_ble_eq_true rfl) dX12_stateOf_3 ⟨Nat.le_refl _, Nat.le_refl _⟩ (fun v_ f_ H locs hp hW => ?_)
  obtain ⟨hpv, hpe⟩ := hp
  rw [hpe] at hW
  have hpv : v_ = some (.int (iI (bI (okP S (k))))) := hpv
  subst hpv
  refine xi_iconst hx hb dX12_stateOf_6 ?_
  refine xi_iconst hx hb dX12_stateOf_7 ?_
  refine g_callV (i := 0) (As := [.int (iI (bI (okP S (k)))), .int (iI (1)), .int (iI (1))]) (rest := []) K (c_M_goes (okP S (k)) (true) (true)) (cwV 3 hts gM_X12_goes rfl rfl rfl (by decide +kernel) ⟨Nat.le_of_ble_eq_true rfl, Nat.le_of_ble_eq_true rfl⟩) hK hW (mW_0 _ _ _ _ _) rfl rfl hl.1 rfl (Nat.le_of_ble_eq_true rfl) dX12_stateOf_8 ⟨Nat.le_refl _, Nat.le_refl _⟩ (fun v_ f_ H locs hp hW => ?_)
  obtain ⟨hpv, hpe⟩ := hp
  rw [hpe] at hW
  subst hpv
  refine xi_ifb_eq (tgt := 23) hx hb dX12_stateOf_11 (by decide) (fun c_1 => ?_) (fun c_1 => ?_)
  · refine xi_iconst hx hb dX12_stateOf_23 ?_
    exact g_iret hx hb hr hW ⟨by rw [pStat, if_neg (by rw [c_1]; decide)], _, _, _, by rw [pStat, if_neg (by rw [c_1]; decide)]⟩ dX12_stateOf_24 hlk
  · have hg := c_1
    simp only [okP, sIn, Bool.and_eq_true, Bool.or_eq_true, decide_eq_true_eq, Bool.not_eq_true', decide_eq_false_iff_not, and_true, true_and] at hg
    have h80 := wf_8 hwf 0
    refine lv_aload_n hx hb dX12_stateOf_14 rfl (lv_at hl 0 rfl) ?_
    refine mr_get K hK hW hin 18 (by decide) lM_state (v := .ref (ix 118)) rfl dX12_stateOf_15 ?_
    refine lv_iload_n hx hb dX12_stateOf_18 rfl (lv_at hl 1 rfl) ?_
    refine mr_iald K hK hW 18 (by decide) rfl (n := 60) rfl rfl ⟨by omega, by omega⟩ (v := S.1 18 (k)) rfl dX12_stateOf_19 ?_
    have w_2 := wf_18 hwf (k)
    refine lv_goto (tgt := 24) hx hb dX12_stateOf_20 (by decide) ?_
    exact g_iret hx hb hr hW ⟨by rw [pStat, if_pos c_1], _, _, _, by rw [pStat, if_pos c_1]⟩ dX12_stateOf_24 hlk
set_option maxHeartbeats 4000000 in
set_option maxRecDepth 100000 in
theorem c_M_queueAt {l : Launch} {D : va_G} {cy : Nat → ClassId} {B0 : Nat} {ix : Nat → Nat} {S : ST} {I : Int → Bool} {aM qM : Int → Int64} {tM : Int} {G : gF} (b : Int) (c : Int) (p : Int) (h_b : rI b) (h_c : rI c) (h_p : rI p) (ho : okS S)  : gM l yX12_queueAt vX12_queueAt 2 42 D cy B0 [.ref (ix 100), .int (iI b), .int (iI c), .int (iI p)] (mW cy ix S (mX I aM qM tM) G) (fun r g => r = some (.int (iI (pQue S b c p).2.1)) ∧ ∃ (J : Int → Bool) (a q : Int → Int64), g = mW cy ix (pQue S b c p).2.2 (mX J a q (pQue S b c p).1) G) 0 0 := by
  refine g_start (cc := cX12_queueAt) (maxL := 4) (ret := (some .int)) (by decide) rfl (Nat.le_of_ble_eq_true rfl) ?_
  intro p_ e_ s_ m_ be_ me_ co_ ls H locs K hr hlk hnm hK hW hl
  have hin : ∀ w ∈ wsX120, w ∈ vX12_queueAt := wsM_cls
  obtain ⟨hx, hb, hml, hown, hts⟩ := id K
  have hl : lv_has ls 4 [(0, .ref (ix 100)), (1, .int (iI (b))), (2, .int (iI (c))), (3, .int (iI (p)))] := hl
  have hwf : wf S := ho.1
  refine lv_aload_n hx hb dX12_queueAt_0 rfl (lv_at hl 0 rfl) ?_
  have j_1 : ∀ (zJ : Bool) (H : Heap) (locs : List Loc), zJ = (okQ b c p) → gW D B0 s_ (mW cy ix S (mX (I) (aM) (qM) (tM)) G) H locs → W p_ l e_ { frames := 2, cells := 0, slots := 0, locals := 42 } s_ m_ ([.ref (ix 100), .int (iI b), .int (iI c), .int (iI p)] : List Value).toArray be_ me_ co_ H locs 0 0 (MQ be_ (gQ D B0 (fun (r : Option Value) (g : gF) => r = some (.int (iI (pQue S b c p).2.1)) ∧ ∃ (J : Int → Bool) (a q : Int → Int64), g = mW cy ix (pQue S b c p).2.2 (mX J a q (pQue S b c p).1) G)) ([.ref (ix 100), .int (iI b), .int (iI c), .int (iI p)] : List Value).toArray s_ 0 0 (fun q : Nat => B0 ≤ q)) (F0 m_ 24 ls [.int (iI (bI (zJ))), .ref (ix 100)]) := by
    intro zJ H locs hzJ hW
    subst hzJ
    refine xi_iconst hx hb dX12_queueAt_24 ?_
    refine xi_iconst hx hb dX12_queueAt_25 ?_
    refine g_callV (i := 0) (As := [.int (iI (bI (okQ b c p))), .int (iI (1)), .int (iI (1))]) (rest := []) K (c_M_goes (okQ b c p) (true) (true)) (cwV 3 hts gM_X12_goes rfl rfl rfl (by decide +kernel) ⟨Nat.le_of_ble_eq_true rfl, Nat.le_of_ble_eq_true rfl⟩) hK hW (mW_0 _ _ _ _ _) rfl rfl hl.1 rfl (Nat.le_of_ble_eq_true rfl) dX12_queueAt_26 ⟨Nat.le_refl _, Nat.le_refl _⟩ (fun v_ f_ H locs hp hW => ?_)
    obtain ⟨hpv, hpe⟩ := hp
    rw [hpe] at hW
    subst hpv
    refine xi_ifb_eq (tgt := 42) hx hb dX12_queueAt_29 (by decide) (fun c_2 => ?_) (fun c_2 => ?_)
    · refine xi_iconst hx hb dX12_queueAt_42 ?_
      exact g_iret hx hb hr hW ⟨by rw [pQue, if_neg (by rw [c_2]; decide)], _, _, _, by rw [pQue, if_neg (by rw [c_2]; decide)]⟩ dX12_queueAt_43 hlk
    · have hg := c_2
      simp only [okQ, sIn, Bool.and_eq_true, Bool.or_eq_true, decide_eq_true_eq, Bool.not_eq_true', decide_eq_false_iff_not, and_true, true_and] at hg
      have h80 := wf_8 hwf 0
      refine lv_aload_n hx hb dX12_queueAt_32 rfl (lv_at hl 0 rfl) ?_
      refine lv_iload_n hx hb dX12_queueAt_33 rfl (lv_at hl 1 rfl) ?_
      refine lv_iload_n hx hb dX12_queueAt_34 rfl (lv_at hl 2 rfl) ?_
      refine lv_iload_n hx hb dX12_queueAt_35 rfl (lv_at hl 3 rfl) ?_
      refine g_callV (i := 0) (As := [.int (iI (b)), .int (iI (c)), .int (iI (p))]) (rest := []) K (c_M_queued (b) (c) (p) ⟨by omega, by omega⟩ ⟨by omega, by omega⟩ ⟨by omega, by omega⟩ hwf) (cwV 3 hts gM_X12_queued rfl rfl rfl (by decide +kernel) ⟨Nat.le_of_ble_eq_true rfl, Nat.le_of_ble_eq_true rfl⟩) hK hW (mW_0 _ _ _ _ _) rfl rfl hl.1 rfl (Nat.le_of_ble_eq_true rfl) dX12_queueAt_36 ⟨Nat.le_refl _, Nat.le_refl _⟩ (fun v_ f_ H locs hp hW => ?_)
      obtain ⟨hpv, hpe⟩ := hp
      rw [hpe] at hW
      have hpv : v_ = some (.int (iI (qAt S b c p))) := hpv
      subst hpv
      refine lv_goto (tgt := 43) hx hb dX12_queueAt_39 (by decide) ?_
      exact g_iret hx hb hr hW ⟨by rw [pQue, if_pos c_2], _, _, _, by rw [pQue, if_pos c_2]⟩ dX12_queueAt_43 hlk
  refine lv_iload_n hx hb dX12_queueAt_1 rfl (lv_at hl 1 rfl) ?_
  refine g_callS (As := [.int (iI (b))]) (rest := [.ref (ix 100)]) K (c_M_isBank (b) ⟨by omega, by omega⟩) (va_cwS 1 hts gM_X12_isBank rfl rfl rfl (by decide +kernel) ⟨Nat.le_of_ble_eq_true rfl, Nat.le_of_ble_eq_true rfl⟩) hK hW rfl hl.1 rfl (Nat.le_of_ble_eq_true rfl) dX12_queueAt_2 ⟨Nat.le_refl _, Nat.le_refl _⟩ (fun v_ f_ H locs hp hW => ?_)
  obtain ⟨hpv, hpe⟩ := hp
  rw [hpe] at hW
  subst hpv
  refine xi_ifb_eq (tgt := 23) hx hb dX12_queueAt_5 (by decide) (fun c_3 => ?_) (fun c_3 => ?_)
  · refine xi_iconst hx hb dX12_queueAt_23 ?_
    exact xi_eq (z' := bI (okQ b c p)) (bI_f (by simp only [okQ, c_3, decide_true, decide_false, Bool.true_and, Bool.and_true, Bool.false_and, Bool.and_false, Bool.true_or, Bool.or_true, Bool.false_or, Bool.or_false, Bool.not_true, Bool.not_false, eq_self])) (j_1 _ _ _ rfl hW)
  · refine lv_iload_n hx hb dX12_queueAt_8 rfl (lv_at hl 2 rfl) ?_
    refine g_callS (As := [.int (iI (c))]) (rest := [.ref (ix 100)]) K (c_M_isCurrency (c) ⟨by omega, by omega⟩) (va_cwS 1 hts gM_X12_isCurrency rfl rfl rfl (by decide +kernel) ⟨Nat.le_of_ble_eq_true rfl, Nat.le_of_ble_eq_true rfl⟩) hK hW rfl hl.1 rfl (Nat.le_of_ble_eq_true rfl) dX12_queueAt_9 ⟨Nat.le_refl _, Nat.le_refl _⟩ (fun v_ f_ H locs hp hW => ?_)
    obtain ⟨hpv, hpe⟩ := hp
    rw [hpe] at hW
    subst hpv
    refine xi_ifb_eq (tgt := 23) hx hb dX12_queueAt_12 (by decide) (fun c_4 => ?_) (fun c_4 => ?_)
    · refine xi_iconst hx hb dX12_queueAt_23 ?_
      exact xi_eq (z' := bI (okQ b c p)) (bI_f (by simp only [okQ, c_3, c_4, decide_true, decide_false, Bool.true_and, Bool.and_true, Bool.false_and, Bool.and_false, Bool.true_or, Bool.or_true, Bool.false_or, Bool.or_false, Bool.not_true, Bool.not_false, eq_self])) (j_1 _ _ _ rfl hW)
    · refine lv_iload_n hx hb dX12_queueAt_15 rfl (lv_at hl 3 rfl) ?_
      refine xi_if_lt (tgt := 23) hx hb ⟨by omega, by omega⟩ dX12_queueAt_16 (by decide) (fun c_5 => ?_) (fun c_5 => ?_)
      · refine xi_iconst hx hb dX12_queueAt_23 ?_
        exact xi_eq (z' := bI (okQ b c p)) (bI_f (by simp only [okQ, c_3, c_4, c_5, Int.not_le.mpr c_5, decide_true, decide_false, Bool.true_and, Bool.and_true, Bool.false_and, Bool.and_false, Bool.true_or, Bool.or_true, Bool.false_or, Bool.or_false, Bool.not_true, Bool.not_false, eq_self])) (j_1 _ _ _ rfl hW)
      · refine xi_iconst hx hb dX12_queueAt_19 ?_
        refine lv_goto (tgt := 24) hx hb dX12_queueAt_20 (by decide) ?_
        exact xi_eq (z' := bI (okQ b c p)) (bI_t (by simp only [okQ, c_3, c_4, c_5, Int.not_lt.mpr c_5, decide_true, decide_false, Bool.true_and, Bool.and_true, Bool.false_and, Bool.and_false, Bool.true_or, Bool.or_true, Bool.false_or, Bool.or_false, Bool.not_true, Bool.not_false, eq_self])) (j_1 _ _ _ rfl hW)
set_option maxHeartbeats 4000000 in
set_option maxRecDepth 100000 in
theorem c_M_entryAt {l : Launch} {D : va_G} {cy : Nat → ClassId} {B0 : Nat} {ix : Nat → Nat} {S : ST} {I : Int → Bool} {aM qM : Int → Int64} {tM : Int} {G : gF} (k : Int) (j : Int) (h_k : rI k) (h_j : rI j) (ho : okS S)  : gM l yX12_entryAt vX12_entryAt 1 23 D cy B0 [.ref (ix 100), .int (iI k), .int (iI j)] (mW cy ix S (mX I aM qM tM) G) (fun r g => r = some (.long (pEnt S k j).2.1) ∧ ∃ (J : Int → Bool) (a q : Int → Int64), g = mW cy ix (pEnt S k j).2.2 (mX J a q (pEnt S k j).1) G) 0 0 := by
  refine g_start (cc := cX12_entryAt) (maxL := 3) (ret := (some .long)) (by decide) rfl (Nat.le_of_ble_eq_true rfl) ?_
  intro p_ e_ s_ m_ be_ me_ co_ ls H locs K hr hlk hnm hK hW hl
  have hin : ∀ w ∈ wsX120, w ∈ vX12_entryAt := wsM_cls
  obtain ⟨hx, hb, hml, hown, hts⟩ := id K
  have hl : lv_has ls 3 [(0, .ref (ix 100)), (1, .int (iI (k))), (2, .int (iI (j)))] := hl
  have hwf : wf S := ho.1
  have h310 := wf_31 hwf 0
  refine lv_aload_n hx hb dX12_entryAt_0 rfl (lv_at hl 0 rfl) ?_
  refine lv_iload_n hx hb dX12_entryAt_1 rfl (lv_at hl 1 rfl) ?_
  refine xi_iconst hx hb dX12_entryAt_2 ?_
  refine lv_aload_n hx hb dX12_entryAt_3 rfl (lv_at hl 0 rfl) ?_
  refine mr_get K hK hW hin 31 (by decide) lM_entries (v := .int (iI (S.1 31 (0)))) rfl dX12_entryAt_4 ?_
  have w_w_1 := wf_31 hwf 0
  refine xi_iconst hx hb dX12_entryAt_7 ?_
  refine xi_isub hx hb dX12_entryAt_8 ?_
  refine g_callS (As := [.int (iI (k)), .int (iI (0)), .int (iI ((S.1 31 (0)) - 1))]) (rest := [.ref (ix 100)]) K (c_M_in (k) (0) ((S.1 31 (0)) - 1) ⟨by omega, by omega⟩ ⟨by omega, by omega⟩ ⟨by omega, by omega⟩) (va_cwS 3 hts gM_X12_in rfl rfl rfl (by decide +kernel) ⟨Nat.le_of_ble_eq_true rfl, Nat.le_of_ble_eq_true rfl⟩) hK hW rfl hl.1 rfl (Nat.le_of_ble_eq_true rfl) dX12_entryAt_9 ⟨Nat.le_refl _, Nat.le_refl _⟩ (fun v_ f_ H locs hp hW => ?_)
  obtain ⟨hpv, hpe⟩ := hp
  rw [hpe] at hW
  subst hpv
  refine lv_iload_n hx hb dX12_entryAt_12 rfl (lv_at hl 2 rfl) ?_
  refine xi_iconst hx hb dX12_entryAt_13 ?_
  refine xi_iconst hx hb dX12_entryAt_14 ?_
  refine g_callS (As := [.int (iI (j)), .int (iI (0)), .int (iI (4))]) (rest := [.int (iI (bI (sIn (k) (0) ((S.1 31 (0)) - 1)))), .ref (ix 100)]) K (c_M_in (j) (0) (4) ⟨by omega, by omega⟩ ⟨by omega, by omega⟩ ⟨by omega, by omega⟩) (va_cwS 3 hts gM_X12_in rfl rfl rfl (by decide +kernel) ⟨Nat.le_of_ble_eq_true rfl, Nat.le_of_ble_eq_true rfl⟩) hK hW rfl hl.1 rfl (Nat.le_of_ble_eq_true rfl) dX12_entryAt_15 ⟨Nat.le_refl _, Nat.le_refl _⟩ (fun v_ f_ H locs hp hW => ?_)
  obtain ⟨hpv, hpe⟩ := hp
  rw [hpe] at hW
  subst hpv
  refine xi_iconst hx hb dX12_entryAt_18 ?_
  refine g_callV (i := 0) (As := [.int (iI (bI (sIn (k) (0) ((S.1 31 (0)) - 1)))), .int (iI (bI (sIn (j) (0) (4)))), .int (iI (1))]) (rest := []) K (c_M_goes (sIn (k) (0) ((S.1 31 (0)) - 1)) (sIn (j) (0) (4)) (true)) (cwV 3 hts gM_X12_goes rfl rfl rfl (by decide +kernel) ⟨Nat.le_of_ble_eq_true rfl, Nat.le_of_ble_eq_true rfl⟩) hK hW (mW_0 _ _ _ _ _) rfl rfl hl.1 rfl (Nat.le_of_ble_eq_true rfl) dX12_entryAt_19 ⟨Nat.le_refl _, Nat.le_refl _⟩ (fun v_ f_ H locs hp hW => ?_)
  obtain ⟨hpv, hpe⟩ := hp
  rw [hpe] at hW
  subst hpv
  refine xi_ifb_eq (tgt := 38) hx hb dX12_entryAt_22 (by decide) (fun c_2 => ?_) (fun c_2 => ?_)
  · refine lv_lconst (v := 0) hx hb dX12_entryAt_38 (by decide) ?_
    exact g_lret hx hb hr hW ⟨by rw [pEnt, if_neg (by rw [c_2]; decide)], _, _, _, by rw [pEnt, if_neg (by rw [c_2]; decide)]⟩ dX12_entryAt_39 hlk
  · have hg := c_2
    simp only [sIn, Bool.and_eq_true, Bool.or_eq_true, decide_eq_true_eq, Bool.not_eq_true', decide_eq_false_iff_not, and_true, true_and] at hg
    have h80 := wf_8 hwf 0
    refine lv_aload_n hx hb dX12_entryAt_25 rfl (lv_at hl 0 rfl) ?_
    refine mr_get K hK hW hin 32 (by decide) lM_entry (v := .ref (ix 132)) rfl dX12_entryAt_26 ?_
    refine xi_iconst hx hb dX12_entryAt_29 ?_
    refine lv_iload_n hx hb dX12_entryAt_30 rfl (lv_at hl 1 rfl) ?_
    refine xi_imul hx hb dX12_entryAt_31 ?_
    refine lv_iload_n hx hb dX12_entryAt_32 rfl (lv_at hl 2 rfl) ?_
    refine xi_iadd hx hb dX12_entryAt_33 ?_
    refine mr_lald K hK hW 32 (by decide) rfl (n := 150000) rfl rfl ⟨by omega, by omega⟩ (v := S.2 32 ((5 * k) + j)) rfl dX12_entryAt_34 ?_
    refine lv_goto (tgt := 39) hx hb dX12_entryAt_35 (by decide) ?_
    exact g_lret hx hb hr hW ⟨by rw [pEnt, if_pos c_2], _, _, _, by rw [pEnt, if_pos c_2]⟩ dX12_entryAt_39 hlk
set_option maxHeartbeats 4000000 in
set_option maxRecDepth 100000 in
theorem c_M_withdraw {l : Launch} {D : va_G} {cy : Nat → ClassId} {B0 : Nat} {ix : Nat → Nat} {S : ST} {I : Int → Bool} {aM qM : Int → Int64} {tM : Int} {G : gF} (k : Int) (h_k : rI k) (ho : okS S) (hlg : lg4 S) : gM l yX12_withdraw vX12_withdraw 5 117 D cy B0 [.ref (ix 100), .int (iI k)] (mW cy ix S (mX I aM qM tM) G) (fun r g => r = some (.int (iI (pWith S k).2.1)) ∧ ∃ (J : Int → Bool) (a q : Int → Int64), g = mW cy ix (pWith S k).2.2 (mX J a q (pWith S k).1) G) 0 0 := by
  refine g_start (cc := cX12_withdraw) (maxL := 5) (ret := (some .int)) (by decide) rfl (Nat.le_of_ble_eq_true rfl) ?_
  intro p_ e_ s_ m_ be_ me_ co_ ls H locs K hr hlk hnm hK hW hl
  have hin : ∀ w ∈ wsX120, w ∈ vX12_withdraw := wsM_cls
  obtain ⟨hx, hb, hml, hown, hts⟩ := id K
  have hl : lv_has ls 5 [(0, .ref (ix 100)), (1, .int (iI (k)))] := hl
  have hwf : wf S := ho.1
  refine lv_aload_n hx hb dX12_withdraw_0 rfl (lv_at hl 0 rfl) ?_
  refine lv_iload_n hx hb dX12_withdraw_1 rfl (lv_at hl 1 rfl) ?_
  refine g_callV (i := 0) (As := [.int (iI (k))]) (rest := []) K (c_M_isPayment (k) ⟨by omega, by omega⟩ hwf) (cwV 1 hts gM_X12_isPayment rfl rfl rfl (by decide +kernel) ⟨Nat.le_of_ble_eq_true rfl, Nat.le_of_ble_eq_true rfl⟩) hK hW (mW_0 _ _ _ _ _) rfl rfl hl.1 rfl (Nat.le_of_ble_eq_true rfl) dX12_withdraw_2 ⟨Nat.le_refl _, Nat.le_refl _⟩ (fun v_ f_ H locs hp hW => ?_)
  obtain ⟨hpv, hpe⟩ := hp
  rw [hpe] at hW
  have hpv : v_ = some (.int (iI (bI (okP S (k))))) := hpv
  subst hpv
  refine lv_istore_n (lv' := [(2, .int (iI (bI (okP S (k))))), (0, .ref (ix 100)), (1, .int (iI (k)))]) hx hb dX12_withdraw_5 rfl hl (by decide) rfl (fun ls hl => ?_)
  refine lv_aload_n hx hb dX12_withdraw_6 rfl (lv_at hl 1 rfl) ?_
  refine lv_iload_n hx hb dX12_withdraw_7 rfl (lv_at hl 0 rfl) ?_
  have j_1 : ∀ (zJ : Bool) (H : Heap) (locs : List Loc), zJ = (okW S k) → gW D B0 s_ (mW cy ix S (mX (I) (aM) (qM) (tM)) G) H locs → W p_ l e_ { frames := 5, cells := 0, slots := 0, locals := 117 } s_ m_ ([.ref (ix 100), .int (iI k)] : List Value).toArray be_ me_ co_ H locs 0 0 (MQ be_ (gQ D B0 (fun (r : Option Value) (g : gF) => r = some (.int (iI (pWith S k).2.1)) ∧ ∃ (J : Int → Bool) (a q : Int → Int64), g = mW cy ix (pWith S k).2.2 (mX J a q (pWith S k).1) G)) ([.ref (ix 100), .int (iI k)] : List Value).toArray s_ 0 0 (fun q : Nat => B0 ≤ q)) (F0 m_ 25 ls [.int (iI (bI (zJ))), .int (iI (bI (okP S (k)))), .ref (ix 100)]) := by
    intro zJ H locs hzJ hW
    subst hzJ
    refine xi_iconst hx hb dX12_withdraw_25 ?_
    refine g_callV (i := 0) (As := [.int (iI (bI (okP S (k)))), .int (iI (bI (okW S k))), .int (iI (1))]) (rest := []) K (c_M_goes (okP S (k)) (okW S k) (true)) (cwV 3 hts gM_X12_goes rfl rfl rfl (by decide +kernel) ⟨Nat.le_of_ble_eq_true rfl, Nat.le_of_ble_eq_true rfl⟩) hK hW (mW_0 _ _ _ _ _) rfl rfl hl.1 rfl (Nat.le_of_ble_eq_true rfl) dX12_withdraw_26 ⟨Nat.le_refl _, Nat.le_refl _⟩ (fun v_ f_ H locs hp hW => ?_)
    obtain ⟨hpv, hpe⟩ := hp
    rw [hpe] at hW
    subst hpv
    refine xi_ifb_ne (tgt := 34) hx hb dX12_withdraw_29 (by decide) (fun c_2 => ?_) (fun c_2 => ?_)
    · have hg := c_2
      simp only [okW, okP, sEnds, Bool.or_eq_false_iff, sIn, Bool.and_eq_true, Bool.or_eq_true, decide_eq_true_eq, Bool.not_eq_true', decide_eq_false_iff_not, and_true, true_and] at hg
      have h80 := wf_8 hwf 0
      refine lv_aload_n hx hb dX12_withdraw_34 rfl (lv_at hl 1 rfl) ?_
      refine lv_iload_n hx hb dX12_withdraw_35 rfl (lv_at hl 2 rfl) ?_
      refine g_callV (i := 0) (As := [.int (iI (k))]) (rest := []) K (c_M_returns (k) ⟨by omega, by omega⟩ hwf) (cwV 1 hts gM_X12_returns rfl rfl rfl (by decide +kernel) ⟨Nat.le_of_ble_eq_true rfl, Nat.le_of_ble_eq_true rfl⟩) hK hW (mW_0 _ _ _ _ _) rfl rfl hl.1 rfl (Nat.le_of_ble_eq_true rfl) dX12_withdraw_36 ⟨Nat.le_refl _, Nat.le_refl _⟩ (fun v_ f_ H locs hp hW => ?_)
      obtain ⟨hpv, hpe⟩ := hp
      rw [hpe] at hW
      have hpv : v_ = some (.int (iI (sRetN S (k)))) := hpv
      subst hpv
      refine lv_istore_n (lv' := [(3, .int (iI (sRetN S (k)))), (2, .int (iI (bI (okP S (k))))), (0, .ref (ix 100)), (1, .int (iI (k)))]) hx hb dX12_withdraw_39 rfl hl (by decide) rfl (fun ls hl => ?_)
      refine lv_aload_n hx hb dX12_withdraw_40 rfl (lv_at hl 2 rfl) ?_
      refine g_callV (i := 0) (As := []) (rest := []) K (c_M_runs (okS_ret ho (by omega) (by omega) (by omega) hlg)) (cwV 0 hts gM_X12_runs rfl rfl rfl (by decide +kernel) ⟨Nat.le_of_ble_eq_true rfl, Nat.le_of_ble_eq_true rfl⟩) hK hW (mW_0 _ _ _ _ _) rfl rfl hl.1 rfl (Nat.le_of_ble_eq_true rfl) dX12_withdraw_41 ⟨Nat.le_refl _, Nat.le_refl _⟩ (fun v_ f_ H locs hp hW => ?_)
      obtain ⟨hpv, J, a, q, hpe⟩ := hp
      rw [hpe] at hW
      subst hpv
      refine lv_istore (lv' := [(4, .int (iI ((sRuns (sRet S (k))).1))), (3, .int (iI (sRetN S (k)))), (2, .int (iI (bI (okP S (k))))), (0, .ref (ix 100)), (1, .int (iI (k)))]) hx hb dX12_withdraw_44 hl (by decide) rfl (fun ls hl => ?_)
      refine lv_iload_n hx hb dX12_withdraw_46 rfl (lv_at hl 1 rfl) ?_
      exact g_iret hx hb hr hW ⟨by rw [pWith, if_pos c_2], _, _, _, by rw [pWith, if_pos c_2]⟩ dX12_withdraw_47 hlk
    · refine xi_iconst hx hb dX12_withdraw_32 ?_
      exact g_iret hx hb hr hW ⟨by rw [pWith, if_neg (by rw [c_2]; decide)], _, _, _, by rw [pWith, if_neg (by rw [c_2]; decide)]⟩ dX12_withdraw_33 hlk
  refine lv_iload_n hx hb dX12_withdraw_8 rfl (lv_at hl 0 rfl) ?_
  refine xi_ifb_eq (tgt := 24) hx hb dX12_withdraw_9 (by decide) (fun c_3 => ?_) (fun c_3 => ?_)
  · refine xi_iconst hx hb dX12_withdraw_24 ?_
    exact xi_eq (z' := bI (okW S k)) (bI_f (by simp only [okW, c_3, decide_true, decide_false, Bool.true_and, Bool.and_true, Bool.false_and, Bool.and_false, Bool.true_or, Bool.or_true, Bool.false_or, Bool.or_false, Bool.not_true, Bool.not_false, eq_self])) (j_1 _ _ _ rfl hW)
  · have hq := c_3
    simp only [okP, sIn, Bool.and_eq_true, decide_eq_true_eq] at hq
    have h80 := wf_8 hwf 0
    refine lv_aload_n hx hb dX12_withdraw_12 rfl (lv_at hl 1 rfl) ?_
    refine lv_iload_n hx hb dX12_withdraw_13 rfl (lv_at hl 2 rfl) ?_
    refine g_callV (i := 0) (As := [.int (iI (k))]) (rest := [.int (iI (bI (okP S (k)))), .ref (ix 100)]) K (c_M_ends (k) ⟨by omega, by omega⟩ hwf) (cwV 1 hts gM_X12_ends rfl rfl rfl (by decide +kernel) ⟨Nat.le_of_ble_eq_true rfl, Nat.le_of_ble_eq_true rfl⟩) hK hW (mW_0 _ _ _ _ _) rfl rfl hl.1 rfl (Nat.le_of_ble_eq_true rfl) dX12_withdraw_14 ⟨Nat.le_refl _, Nat.le_refl _⟩ (fun v_ f_ H locs hp hW => ?_)
    obtain ⟨hpv, hpe⟩ := hp
    rw [hpe] at hW
    have hpv : v_ = some (.int (iI (bI (sEnds S (k))))) := hpv
    subst hpv
    refine xi_ifb_ne (tgt := 24) hx hb dX12_withdraw_17 (by decide) (fun c_4 => ?_) (fun c_4 => ?_)
    · refine xi_iconst hx hb dX12_withdraw_24 ?_
      exact xi_eq (z' := bI (okW S k)) (bI_f (by simp only [okW, c_3, c_4, decide_true, decide_false, Bool.true_and, Bool.and_true, Bool.false_and, Bool.and_false, Bool.true_or, Bool.or_true, Bool.false_or, Bool.or_false, Bool.not_true, Bool.not_false, eq_self])) (j_1 _ _ _ rfl hW)
    · refine xi_iconst hx hb dX12_withdraw_20 ?_
      refine lv_goto (tgt := 25) hx hb dX12_withdraw_21 (by decide) ?_
      exact xi_eq (z' := bI (okW S k)) (bI_t (by simp only [okW, c_3, c_4, decide_true, decide_false, Bool.true_and, Bool.and_true, Bool.false_and, Bool.and_false, Bool.true_or, Bool.or_true, Bool.false_or, Bool.or_false, Bool.not_true, Bool.not_false, eq_self])) (j_1 _ _ _ rfl hW)
set_option maxHeartbeats 4000000 in
set_option maxRecDepth 100000 in
theorem c_M_refuse {l : Launch} {D : va_G} {cy : Nat → ClassId} {B0 : Nat} {ix : Nat → Nat} {S : ST} {I : Int → Bool} {aM qM : Int → Int64} {tM : Int} {G : gF} (k : Int) (h_k : rI k) (ho : okS S) (hlg : lg4 S) : gM l yX12_refuse vX12_refuse 5 117 D cy B0 [.ref (ix 100), .int (iI k)] (mW cy ix S (mX I aM qM tM) G) (fun r g => r = some (.int (iI (pRefu S k).2.1)) ∧ ∃ (J : Int → Bool) (a q : Int → Int64), g = mW cy ix (pRefu S k).2.2 (mX J a q (pRefu S k).1) G) 0 0 := by
  refine g_start (cc := cX12_refuse) (maxL := 5) (ret := (some .int)) (by decide) rfl (Nat.le_of_ble_eq_true rfl) ?_
  intro p_ e_ s_ m_ be_ me_ co_ ls H locs K hr hlk hnm hK hW hl
  have hin : ∀ w ∈ wsX120, w ∈ vX12_refuse := wsM_cls
  obtain ⟨hx, hb, hml, hown, hts⟩ := id K
  have hl : lv_has ls 5 [(0, .ref (ix 100)), (1, .int (iI (k)))] := hl
  have hwf : wf S := ho.1
  refine lv_aload_n hx hb dX12_refuse_0 rfl (lv_at hl 0 rfl) ?_
  refine lv_iload_n hx hb dX12_refuse_1 rfl (lv_at hl 1 rfl) ?_
  refine g_callV (i := 0) (As := [.int (iI (k))]) (rest := []) K (c_M_isPayment (k) ⟨by omega, by omega⟩ hwf) (cwV 1 hts gM_X12_isPayment rfl rfl rfl (by decide +kernel) ⟨Nat.le_of_ble_eq_true rfl, Nat.le_of_ble_eq_true rfl⟩) hK hW (mW_0 _ _ _ _ _) rfl rfl hl.1 rfl (Nat.le_of_ble_eq_true rfl) dX12_refuse_2 ⟨Nat.le_refl _, Nat.le_refl _⟩ (fun v_ f_ H locs hp hW => ?_)
  obtain ⟨hpv, hpe⟩ := hp
  rw [hpe] at hW
  have hpv : v_ = some (.int (iI (bI (okP S (k))))) := hpv
  subst hpv
  refine lv_istore_n (lv' := [(2, .int (iI (bI (okP S (k))))), (0, .ref (ix 100)), (1, .int (iI (k)))]) hx hb dX12_refuse_5 rfl hl (by decide) rfl (fun ls hl => ?_)
  refine lv_aload_n hx hb dX12_refuse_6 rfl (lv_at hl 1 rfl) ?_
  refine lv_iload_n hx hb dX12_refuse_7 rfl (lv_at hl 0 rfl) ?_
  have j_1 : ∀ (zJ : Bool) (H : Heap) (locs : List Loc), zJ = (okF S k) → gW D B0 s_ (mW cy ix S (mX (I) (aM) (qM) (tM)) G) H locs → W p_ l e_ { frames := 5, cells := 0, slots := 0, locals := 117 } s_ m_ ([.ref (ix 100), .int (iI k)] : List Value).toArray be_ me_ co_ H locs 0 0 (MQ be_ (gQ D B0 (fun (r : Option Value) (g : gF) => r = some (.int (iI (pRefu S k).2.1)) ∧ ∃ (J : Int → Bool) (a q : Int → Int64), g = mW cy ix (pRefu S k).2.2 (mX J a q (pRefu S k).1) G)) ([.ref (ix 100), .int (iI k)] : List Value).toArray s_ 0 0 (fun q : Nat => B0 ≤ q)) (F0 m_ 27 ls [.int (iI (bI (zJ))), .int (iI (bI (okP S (k)))), .ref (ix 100)]) := by
    intro zJ H locs hzJ hW
    subst hzJ
    refine xi_iconst hx hb dX12_refuse_27 ?_
    refine g_callV (i := 0) (As := [.int (iI (bI (okP S (k)))), .int (iI (bI (okF S k))), .int (iI (1))]) (rest := []) K (c_M_goes (okP S (k)) (okF S k) (true)) (cwV 3 hts gM_X12_goes rfl rfl rfl (by decide +kernel) ⟨Nat.le_of_ble_eq_true rfl, Nat.le_of_ble_eq_true rfl⟩) hK hW (mW_0 _ _ _ _ _) rfl rfl hl.1 rfl (Nat.le_of_ble_eq_true rfl) dX12_refuse_28 ⟨Nat.le_refl _, Nat.le_refl _⟩ (fun v_ f_ H locs hp hW => ?_)
    obtain ⟨hpv, hpe⟩ := hp
    rw [hpe] at hW
    subst hpv
    refine xi_ifb_ne (tgt := 36) hx hb dX12_refuse_31 (by decide) (fun c_2 => ?_) (fun c_2 => ?_)
    · have hg := c_2
      simp only [okF, okP, sIn, Bool.and_eq_true, Bool.or_eq_true, decide_eq_true_eq, Bool.not_eq_true', decide_eq_false_iff_not, and_true, true_and] at hg
      have h80 := wf_8 hwf 0
      refine lv_aload_n hx hb dX12_refuse_36 rfl (lv_at hl 1 rfl) ?_
      refine lv_iload_n hx hb dX12_refuse_37 rfl (lv_at hl 2 rfl) ?_
      refine g_callV (i := 0) (As := [.int (iI (k))]) (rest := []) K (c_M_returns (k) ⟨by omega, by omega⟩ hwf) (cwV 1 hts gM_X12_returns rfl rfl rfl (by decide +kernel) ⟨Nat.le_of_ble_eq_true rfl, Nat.le_of_ble_eq_true rfl⟩) hK hW (mW_0 _ _ _ _ _) rfl rfl hl.1 rfl (Nat.le_of_ble_eq_true rfl) dX12_refuse_38 ⟨Nat.le_refl _, Nat.le_refl _⟩ (fun v_ f_ H locs hp hW => ?_)
      obtain ⟨hpv, hpe⟩ := hp
      rw [hpe] at hW
      have hpv : v_ = some (.int (iI (sRetN S (k)))) := hpv
      subst hpv
      refine lv_istore_n (lv' := [(3, .int (iI (sRetN S (k)))), (2, .int (iI (bI (okP S (k))))), (0, .ref (ix 100)), (1, .int (iI (k)))]) hx hb dX12_refuse_41 rfl hl (by decide) rfl (fun ls hl => ?_)
      refine lv_aload_n hx hb dX12_refuse_42 rfl (lv_at hl 2 rfl) ?_
      refine g_callV (i := 0) (As := []) (rest := []) K (c_M_runs (okS_ret ho (by omega) (by omega) (by omega) hlg)) (cwV 0 hts gM_X12_runs rfl rfl rfl (by decide +kernel) ⟨Nat.le_of_ble_eq_true rfl, Nat.le_of_ble_eq_true rfl⟩) hK hW (mW_0 _ _ _ _ _) rfl rfl hl.1 rfl (Nat.le_of_ble_eq_true rfl) dX12_refuse_43 ⟨Nat.le_refl _, Nat.le_refl _⟩ (fun v_ f_ H locs hp hW => ?_)
      obtain ⟨hpv, J, a, q, hpe⟩ := hp
      rw [hpe] at hW
      subst hpv
      refine lv_istore (lv' := [(4, .int (iI ((sRuns (sRet S (k))).1))), (3, .int (iI (sRetN S (k)))), (2, .int (iI (bI (okP S (k))))), (0, .ref (ix 100)), (1, .int (iI (k)))]) hx hb dX12_refuse_46 hl (by decide) rfl (fun ls hl => ?_)
      refine lv_iload_n hx hb dX12_refuse_48 rfl (lv_at hl 1 rfl) ?_
      exact g_iret hx hb hr hW ⟨by rw [pRefu, if_pos c_2], _, _, _, by rw [pRefu, if_pos c_2]⟩ dX12_refuse_49 hlk
    · refine xi_iconst hx hb dX12_refuse_34 ?_
      exact g_iret hx hb hr hW ⟨by rw [pRefu, if_neg (by rw [c_2]; decide)], _, _, _, by rw [pRefu, if_neg (by rw [c_2]; decide)]⟩ dX12_refuse_35 hlk
  refine lv_iload_n hx hb dX12_refuse_8 rfl (lv_at hl 0 rfl) ?_
  refine xi_ifb_eq (tgt := 26) hx hb dX12_refuse_9 (by decide) (fun c_3 => ?_) (fun c_3 => ?_)
  · refine xi_iconst hx hb dX12_refuse_26 ?_
    exact xi_eq (z' := bI (okF S k)) (bI_f (by simp only [okF, c_3, decide_true, decide_false, Bool.true_and, Bool.and_true, Bool.false_and, Bool.and_false, Bool.true_or, Bool.or_true, Bool.false_or, Bool.or_false, Bool.not_true, Bool.not_false, eq_self])) (j_1 _ _ _ rfl hW)
  · have hq := c_3
    simp only [okP, sIn, Bool.and_eq_true, decide_eq_true_eq] at hq
    have h80 := wf_8 hwf 0
    refine lv_aload_n hx hb dX12_refuse_12 rfl (lv_at hl 1 rfl) ?_
    refine mr_get K hK hW hin 18 (by decide) lM_state (v := .ref (ix 118)) rfl dX12_refuse_13 ?_
    refine lv_iload_n hx hb dX12_refuse_16 rfl (lv_at hl 2 rfl) ?_
    refine mr_iald K hK hW 18 (by decide) rfl (n := 60) rfl rfl ⟨by omega, by omega⟩ (v := S.1 18 (k)) rfl dX12_refuse_17 ?_
    have w_4 := wf_18 hwf (k)
    refine xi_iconst hx hb dX12_refuse_18 ?_
    refine xi_icmp_ne (tgt := 26) hx hb ⟨by omega, by omega⟩ ⟨by omega, by omega⟩ dX12_refuse_19 (by decide) (fun c_5 => ?_) (fun c_5 => ?_)
    · refine xi_iconst hx hb dX12_refuse_26 ?_
      exact xi_eq (z' := bI (okF S k)) (bI_f (by simp only [okF, c_3, c_5, decide_true, decide_false, Bool.true_and, Bool.and_true, Bool.false_and, Bool.and_false, Bool.true_or, Bool.or_true, Bool.false_or, Bool.or_false, Bool.not_true, Bool.not_false, eq_self])) (j_1 _ _ _ rfl hW)
    · refine xi_iconst hx hb dX12_refuse_22 ?_
      refine lv_goto (tgt := 27) hx hb dX12_refuse_23 (by decide) ?_
      exact xi_eq (z' := bI (okF S k)) (bI_t (by simp only [okF, c_3, c_5, decide_true, decide_false, Bool.true_and, Bool.and_true, Bool.false_and, Bool.and_false, Bool.true_or, Bool.or_true, Bool.false_or, Bool.or_false, Bool.not_true, Bool.not_false, eq_self])) (j_1 _ _ _ rfl hW)
set_option maxHeartbeats 4000000 in
set_option maxRecDepth 100000 in
theorem c_M_recall {l : Launch} {D : va_G} {cy : Nat → ClassId} {B0 : Nat} {ix : Nat → Nat} {S : ST} {I : Int → Bool} {aM qM : Int → Int64} {tM : Int} {G : gF} (k : Int) (h_k : rI k) (ho : okS S)  : gM l yX12_recall vX12_recall 2 43 D cy B0 [.ref (ix 100), .int (iI k)] (mW cy ix S (mX I aM qM tM) G) (fun r g => r = some (.int (iI (pRec S k).2.1)) ∧ ∃ (J : Int → Bool) (a q : Int → Int64), g = mW cy ix (pRec S k).2.2 (mX J a q (pRec S k).1) G) 0 0 := by
  refine g_start (cc := cX12_recall) (maxL := 3) (ret := (some .int)) (by decide) rfl (Nat.le_of_ble_eq_true rfl) ?_
  intro p_ e_ s_ m_ be_ me_ co_ ls H locs K hr hlk hnm hK hW hl
  have hin : ∀ w ∈ wsX120, w ∈ vX12_recall := wsM_cls
  obtain ⟨hx, hb, hml, hown, hts⟩ := id K
  have hl : lv_has ls 3 [(0, .ref (ix 100)), (1, .int (iI (k)))] := hl
  have hwf : wf S := ho.1
  have h00 := wf_0 hwf 0
  refine lv_aload_n hx hb dX12_recall_0 rfl (lv_at hl 0 rfl) ?_
  refine lv_iload_n hx hb dX12_recall_1 rfl (lv_at hl 1 rfl) ?_
  refine g_callV (i := 0) (As := [.int (iI (k))]) (rest := []) K (c_M_isPayment (k) ⟨by omega, by omega⟩ hwf) (cwV 1 hts gM_X12_isPayment rfl rfl rfl (by decide +kernel) ⟨Nat.le_of_ble_eq_true rfl, Nat.le_of_ble_eq_true rfl⟩) hK hW (mW_0 _ _ _ _ _) rfl rfl hl.1 rfl (Nat.le_of_ble_eq_true rfl) dX12_recall_2 ⟨Nat.le_refl _, Nat.le_refl _⟩ (fun v_ f_ H locs hp hW => ?_)
  obtain ⟨hpv, hpe⟩ := hp
  rw [hpe] at hW
  have hpv : v_ = some (.int (iI (bI (okP S (k))))) := hpv
  subst hpv
  refine lv_istore_n (lv' := [(2, .int (iI (bI (okP S (k))))), (0, .ref (ix 100)), (1, .int (iI (k)))]) hx hb dX12_recall_5 rfl hl (by decide) rfl (fun ls hl => ?_)
  refine lv_aload_n hx hb dX12_recall_6 rfl (lv_at hl 1 rfl) ?_
  refine lv_iload_n hx hb dX12_recall_7 rfl (lv_at hl 0 rfl) ?_
  have j_1 : ∀ (zJ : Bool) (H : Heap) (locs : List Loc), zJ = (okC S k) → gW D B0 s_ (mW cy ix S (mX (I) (aM) (qM) (tM)) G) H locs → W p_ l e_ { frames := 2, cells := 0, slots := 0, locals := 43 } s_ m_ ([.ref (ix 100), .int (iI k)] : List Value).toArray be_ me_ co_ H locs 0 0 (MQ be_ (gQ D B0 (fun (r : Option Value) (g : gF) => r = some (.int (iI (pRec S k).2.1)) ∧ ∃ (J : Int → Bool) (a q : Int → Int64), g = mW cy ix (pRec S k).2.2 (mX J a q (pRec S k).1) G)) ([.ref (ix 100), .int (iI k)] : List Value).toArray s_ 0 0 (fun q : Nat => B0 ≤ q)) (F0 m_ 52 ls [.int (iI (bI (zJ))), .int (iI (bI (okP S (k)))), .ref (ix 100)]) := by
    intro zJ H locs hzJ hW
    subst hzJ
    refine xi_iconst hx hb dX12_recall_52 ?_
    refine g_callV (i := 0) (As := [.int (iI (bI (okP S (k)))), .int (iI (bI (okC S k))), .int (iI (1))]) (rest := []) K (c_M_goes (okP S (k)) (okC S k) (true)) (cwV 3 hts gM_X12_goes rfl rfl rfl (by decide +kernel) ⟨Nat.le_of_ble_eq_true rfl, Nat.le_of_ble_eq_true rfl⟩) hK hW (mW_0 _ _ _ _ _) rfl rfl hl.1 rfl (Nat.le_of_ble_eq_true rfl) dX12_recall_53 ⟨Nat.le_refl _, Nat.le_refl _⟩ (fun v_ f_ H locs hp hW => ?_)
    obtain ⟨hpv, hpe⟩ := hp
    rw [hpe] at hW
    subst hpv
    refine xi_ifb_ne (tgt := 61) hx hb dX12_recall_56 (by decide) (fun c_2 => ?_) (fun c_2 => ?_)
    · have hg := c_2
      simp only [okC, okP, sIn, Bool.and_eq_true, Bool.or_eq_true, decide_eq_true_eq, Bool.not_eq_true', decide_eq_false_iff_not, and_true, true_and] at hg
      have h80 := wf_8 hwf 0
      refine lv_aload_n hx hb dX12_recall_61 rfl (lv_at hl 1 rfl) ?_
      refine mr_get K hK hW hin 23 (by decide) lM_recalledOn (v := .ref (ix 123)) rfl dX12_recall_62 ?_
      refine lv_iload_n hx hb dX12_recall_65 rfl (lv_at hl 2 rfl) ?_
      refine lv_aload_n hx hb dX12_recall_66 rfl (lv_at hl 1 rfl) ?_
      refine mr_get K hK hW hin 0 (by decide) lM_today (v := .int (iI (S.1 0 (0)))) rfl dX12_recall_67 ?_
      have w_w_3 := wf_0 hwf 0
      refine mr_iast K hK hW 23 (by decide) rfl (n := 60) rfl rfl ⟨by omega, by omega⟩ dX12_recall_70 (fun H locs hW => ?_)
      refine lv_aload_n hx hb dX12_recall_71 rfl (lv_at hl 1 rfl) ?_
      refine mr_get K hK hW hin 0 (by decide) lM_today (v := .int (iI (S.1 0 (0)))) rfl dX12_recall_72 ?_
      have w_w_4 := wf_0 hwf 0
      refine xi_iconst hx hb dX12_recall_75 ?_
      refine xi_iadd hx hb dX12_recall_76 ?_
      exact g_iret hx hb hr hW ⟨by rw [pRec, if_pos c_2], _, _, _, by rw [pRec, if_pos c_2]; exact (mW_g (by decide) rfl).symm⟩ dX12_recall_77 hlk
    · refine xi_iconst hx hb dX12_recall_59 ?_
      exact g_iret hx hb hr hW ⟨by rw [pRec, if_neg (by rw [c_2]; decide)], _, _, _, by rw [pRec, if_neg (by rw [c_2]; decide)]⟩ dX12_recall_60 hlk
  refine lv_iload_n hx hb dX12_recall_8 rfl (lv_at hl 0 rfl) ?_
  refine xi_ifb_eq (tgt := 51) hx hb dX12_recall_9 (by decide) (fun c_5 => ?_) (fun c_5 => ?_)
  · refine xi_iconst hx hb dX12_recall_51 ?_
    exact xi_eq (z' := bI (okC S k)) (bI_f (by simp only [okC, c_5, decide_true, decide_false, Bool.true_and, Bool.and_true, Bool.false_and, Bool.and_false, Bool.true_or, Bool.or_true, Bool.false_or, Bool.or_false, Bool.not_true, Bool.not_false, eq_self])) (j_1 _ _ _ rfl hW)
  · have hq := c_5
    simp only [okP, sIn, Bool.and_eq_true, decide_eq_true_eq] at hq
    have h80 := wf_8 hwf 0
    refine lv_aload_n hx hb dX12_recall_12 rfl (lv_at hl 1 rfl) ?_
    refine mr_get K hK hW hin 18 (by decide) lM_state (v := .ref (ix 118)) rfl dX12_recall_13 ?_
    refine lv_iload_n hx hb dX12_recall_16 rfl (lv_at hl 2 rfl) ?_
    refine mr_iald K hK hW 18 (by decide) rfl (n := 60) rfl rfl ⟨by omega, by omega⟩ (v := S.1 18 (k)) rfl dX12_recall_17 ?_
    have w_6 := wf_18 hwf (k)
    refine xi_iconst hx hb dX12_recall_18 ?_
    refine xi_icmp_ne (tgt := 51) hx hb ⟨by omega, by omega⟩ ⟨by omega, by omega⟩ dX12_recall_19 (by decide) (fun c_7 => ?_) (fun c_7 => ?_)
    · refine xi_iconst hx hb dX12_recall_51 ?_
      exact xi_eq (z' := bI (okC S k)) (bI_f (by simp only [okC, c_5, c_7, decide_true, decide_false, Bool.true_and, Bool.and_true, Bool.false_and, Bool.and_false, Bool.true_or, Bool.or_true, Bool.false_or, Bool.or_false, Bool.not_true, Bool.not_false, eq_self])) (j_1 _ _ _ rfl hW)
    · refine lv_aload_n hx hb dX12_recall_22 rfl (lv_at hl 1 rfl) ?_
      refine mr_get K hK hW hin 0 (by decide) lM_today (v := .int (iI (S.1 0 (0)))) rfl dX12_recall_23 ?_
      have w_w_8 := wf_0 hwf 0
      refine lv_aload_n hx hb dX12_recall_26 rfl (lv_at hl 1 rfl) ?_
      refine mr_get K hK hW hin 22 (by decide) lM_finalOn (v := .ref (ix 122)) rfl dX12_recall_27 ?_
      refine lv_iload_n hx hb dX12_recall_30 rfl (lv_at hl 2 rfl) ?_
      refine mr_iald K hK hW 22 (by decide) rfl (n := 60) rfl rfl ⟨by omega, by omega⟩ (v := S.1 22 (k)) rfl dX12_recall_31 ?_
      have w_9 := wf_22 hwf (k)
      refine xi_iconst hx hb dX12_recall_32 ?_
      refine xi_iadd hx hb dX12_recall_33 ?_
      refine xi_icmp_gt (tgt := 51) hx hb ⟨by omega, by omega⟩ ⟨by omega, by omega⟩ dX12_recall_34 (by decide) (fun c_10 => ?_) (fun c_10 => ?_)
      · refine xi_iconst hx hb dX12_recall_51 ?_
        exact xi_eq (z' := bI (okC S k)) (bI_f (by simp only [okC, c_5, c_7, c_10, Int.not_le.mpr c_10, decide_true, decide_false, Bool.true_and, Bool.and_true, Bool.false_and, Bool.and_false, Bool.true_or, Bool.or_true, Bool.false_or, Bool.or_false, Bool.not_true, Bool.not_false, eq_self])) (j_1 _ _ _ rfl hW)
      · refine lv_aload_n hx hb dX12_recall_37 rfl (lv_at hl 1 rfl) ?_
        refine mr_get K hK hW hin 23 (by decide) lM_recalledOn (v := .ref (ix 123)) rfl dX12_recall_38 ?_
        refine lv_iload_n hx hb dX12_recall_41 rfl (lv_at hl 2 rfl) ?_
        refine mr_iald K hK hW 23 (by decide) rfl (n := 60) rfl rfl ⟨by omega, by omega⟩ (v := S.1 23 (k)) rfl dX12_recall_42 ?_
        have w_11 := wf_23 hwf (k)
        refine xi_iconst hx hb dX12_recall_43 ?_
        refine xi_icmp_ne (tgt := 51) hx hb ⟨by omega, by omega⟩ ⟨by omega, by omega⟩ dX12_recall_44 (by decide) (fun c_12 => ?_) (fun c_12 => ?_)
        · refine xi_iconst hx hb dX12_recall_51 ?_
          exact xi_eq (z' := bI (okC S k)) (bI_f (by simp only [okC, c_5, c_7, c_10, Int.not_lt.mpr c_10, c_12, decide_true, decide_false, Bool.true_and, Bool.and_true, Bool.false_and, Bool.and_false, Bool.true_or, Bool.or_true, Bool.false_or, Bool.or_false, Bool.not_true, Bool.not_false, eq_self])) (j_1 _ _ _ rfl hW)
        · refine xi_iconst hx hb dX12_recall_47 ?_
          refine lv_goto (tgt := 52) hx hb dX12_recall_48 (by decide) ?_
          exact xi_eq (z' := bI (okC S k)) (bI_t (by simp only [okC, c_5, c_7, c_10, Int.not_lt.mpr c_10, c_12, decide_true, decide_false, Bool.true_and, Bool.and_true, Bool.false_and, Bool.and_false, Bool.true_or, Bool.or_true, Bool.false_or, Bool.or_false, Bool.not_true, Bool.not_false, eq_self])) (j_1 _ _ _ rfl hW)
set_option maxHeartbeats 4000000 in
set_option maxRecDepth 100000 in
theorem c_M_join {l : Launch} {D : va_G} {cy : Nat → ClassId} {B0 : Nat} {ix : Nat → Nat} {S : ST} {I : Int → Bool} {aM qM : Int → Int64} {tM : Int} {G : gF} (k : Int) (u : Int) (h_k : rI k) (h_u : rI u) (ho : okS S)  : gM l yX12_join vX12_join 5 117 D cy B0 [.ref (ix 100), .int (iI k), .int (iI u)] (mW cy ix S (mX I aM qM tM) G) (fun r g => r = none ∧ ∃ (J : Int → Bool) (a q : Int → Int64), g = mW cy ix (pJoin S k u).2 (mX J a q (pJoin S k u).1) G) 0 0 := by
  refine g_start (cc := cX12_join) (maxL := 5) (ret := none) (by decide) rfl (Nat.le_of_ble_eq_true rfl) ?_
  intro p_ e_ s_ m_ be_ me_ co_ ls H locs K hr hlk hnm hK hW hl
  have hin : ∀ w ∈ wsX120, w ∈ vX12_join := wsM_cls
  obtain ⟨hx, hb, hml, hown, hts⟩ := id K
  have hl : lv_has ls 5 [(0, .ref (ix 100)), (1, .int (iI (k))), (2, .int (iI (u)))] := hl
  have hwf : wf S := ho.1
  have j_1 : ∀ (zJ : Bool) (H : Heap) (locs : List Loc), zJ = (okPP S k u) → gW D B0 s_ (mW cy ix S (mX (I) (aM) (qM) (tM)) G) H locs → W p_ l e_ { frames := 5, cells := 0, slots := 0, locals := 117 } s_ m_ ([.ref (ix 100), .int (iI k), .int (iI u)] : List Value).toArray be_ me_ co_ H locs 0 0 (MQ be_ (gQ D B0 (fun (r : Option Value) (g : gF) => r = none ∧ ∃ (J : Int → Bool) (a q : Int → Int64), g = mW cy ix (pJoin S k u).2 (mX J a q (pJoin S k u).1) G)) ([.ref (ix 100), .int (iI k), .int (iI u)] : List Value).toArray s_ 0 0 (fun q : Nat => B0 ≤ q)) (F0 m_ 21 ls [.int (iI (bI (zJ)))]) := by
    intro zJ H locs hzJ hW
    subst hzJ
    refine lv_istore_n (lv' := [(3, .int (iI (bI (okPP S k u)))), (0, .ref (ix 100)), (1, .int (iI (k))), (2, .int (iI (u)))]) hx hb dX12_join_21 rfl hl (by decide) rfl (fun ls hl => ?_)
    refine lv_aload_n hx hb dX12_join_22 rfl (lv_at hl 1 rfl) ?_
    refine lv_iload_n hx hb dX12_join_23 rfl (lv_at hl 0 rfl) ?_
    have j_2 : ∀ (zJ : Bool) (H : Heap) (locs : List Loc), zJ = (okJ S k u) → gW D B0 s_ (mW cy ix S (mX (I) (aM) (qM) (tM)) G) H locs → W p_ l e_ { frames := 5, cells := 0, slots := 0, locals := 117 } s_ m_ ([.ref (ix 100), .int (iI k), .int (iI u)] : List Value).toArray be_ me_ co_ H locs 0 0 (MQ be_ (gQ D B0 (fun (r : Option Value) (g : gF) => r = none ∧ ∃ (J : Int → Bool) (a q : Int → Int64), g = mW cy ix (pJoin S k u).2 (mX J a q (pJoin S k u).1) G)) ([.ref (ix 100), .int (iI k), .int (iI u)] : List Value).toArray s_ 0 0 (fun q : Nat => B0 ≤ q)) (F0 m_ 42 ls [.int (iI (bI (zJ))), .int (iI (bI (okPP S k u))), .ref (ix 100)]) := by
      intro zJ H locs hzJ hW
      subst hzJ
      refine xi_iconst hx hb dX12_join_42 ?_
      refine g_callV (i := 0) (As := [.int (iI (bI (okPP S k u))), .int (iI (bI (okJ S k u))), .int (iI (1))]) (rest := []) K (c_M_goes (okPP S k u) (okJ S k u) (true)) (cwV 3 hts gM_X12_goes rfl rfl rfl (by decide +kernel) ⟨Nat.le_of_ble_eq_true rfl, Nat.le_of_ble_eq_true rfl⟩) hK hW (mW_0 _ _ _ _ _) rfl rfl hl.1 rfl (Nat.le_of_ble_eq_true rfl) dX12_join_43 ⟨Nat.le_refl _, Nat.le_refl _⟩ (fun v_ f_ H locs hp hW => ?_)
      obtain ⟨hpv, hpe⟩ := hp
      rw [hpe] at hW
      subst hpv
      refine xi_ifb_eq (tgt := 69) hx hb dX12_join_46 (by decide) (fun c_3 => ?_) (fun c_3 => ?_)
      · exact g_vret hx hb hr hW ⟨rfl, _, _, _, by rw [pJoin, if_neg (by rw [c_3]; decide)]⟩ dX12_join_69 hlk
      · have hg := c_3
        simp only [okPP, okJ, okP, sIn, Bool.and_eq_true, Bool.or_eq_true, decide_eq_true_eq, Bool.not_eq_true', decide_eq_false_iff_not, and_true, true_and] at hg
        have h80 := wf_8 hwf 0
        refine lv_aload_n hx hb dX12_join_49 rfl (lv_at hl 1 rfl) ?_
        refine mr_get K hK hW hin 21 (by decide) lM_leg (v := .ref (ix 121)) rfl dX12_join_50 ?_
        refine lv_iload_n hx hb dX12_join_53 rfl (lv_at hl 2 rfl) ?_
        refine lv_iload_n hx hb dX12_join_54 rfl (lv_at hl 3 rfl) ?_
        refine mr_iast K hK hW 21 (by decide) rfl (n := 60) rfl rfl ⟨by omega, by omega⟩ dX12_join_55 (fun H locs hW => ?_)
        refine lv_aload_n hx hb dX12_join_56 rfl (lv_at hl 1 rfl) ?_
        refine mr_get K hK hW hin 21 (by decide) lM_leg (v := .ref (ix 121)) rfl dX12_join_57 ?_
        refine lv_iload_n hx hb dX12_join_60 rfl (lv_at hl 3 rfl) ?_
        refine lv_iload_n hx hb dX12_join_61 rfl (lv_at hl 2 rfl) ?_
        refine mr_iast K hK hW 21 (by decide) rfl (n := 60) rfl rfl ⟨by omega, by omega⟩ dX12_join_62 (fun H locs hW => ?_)
        refine lv_aload_n hx hb dX12_join_63 rfl (lv_at hl 1 rfl) ?_
        refine g_callV (i := 0) (As := []) (rest := []) K (c_M_runs (okS_pI (okS_pI ho (f := 21) k u (by decide) ⟨by simp only [rLo]; omega, by simp only [rHi]; omega⟩) (f := 21) u k (by decide) ⟨by simp only [rLo]; omega, by simp only [rHi]; omega⟩)) (cwV 0 hts gM_X12_runs rfl rfl rfl (by decide +kernel) ⟨Nat.le_of_ble_eq_true rfl, Nat.le_of_ble_eq_true rfl⟩) hK hW (mW_0 _ _ _ _ _) rfl rfl hl.1 rfl (Nat.le_of_ble_eq_true rfl) dX12_join_64 ⟨Nat.le_refl _, Nat.le_refl _⟩ (fun v_ f_ H locs hp hW => ?_)
        obtain ⟨hpv, J, a, q, hpe⟩ := hp
        rw [hpe] at hW
        subst hpv
        refine lv_istore (lv' := [(4, .int (iI ((sRuns (pI (pI S 21 (k) (u)) 21 (u) (k))).1))), (3, .int (iI (bI (okPP S k u)))), (0, .ref (ix 100)), (1, .int (iI (k))), (2, .int (iI (u)))]) hx hb dX12_join_67 hl (by decide) rfl (fun ls hl => ?_)
        exact g_vret hx hb hr hW ⟨rfl, _, _, _, by rw [pJoin, if_pos c_3]⟩ dX12_join_69 hlk
    refine lv_iload_n hx hb dX12_join_24 rfl (lv_at hl 0 rfl) ?_
    refine xi_ifb_eq (tgt := 41) hx hb dX12_join_25 (by decide) (fun c_4 => ?_) (fun c_4 => ?_)
    · refine xi_iconst hx hb dX12_join_41 ?_
      exact xi_eq (z' := bI (okJ S k u)) (bI_f (by simp only [okJ, c_4, decide_true, decide_false, Bool.true_and, Bool.and_true, Bool.false_and, Bool.and_false, Bool.true_or, Bool.or_true, Bool.false_or, Bool.or_false, Bool.not_true, Bool.not_false, eq_self])) (j_2 _ _ _ rfl hW)
    · have hq := c_4
      simp only [okPP, okP, sIn, Bool.and_eq_true, decide_eq_true_eq] at hq
      have h80 := wf_8 hwf 0
      refine lv_aload_n hx hb dX12_join_28 rfl (lv_at hl 1 rfl) ?_
      refine lv_iload_n hx hb dX12_join_29 rfl (lv_at hl 2 rfl) ?_
      refine lv_iload_n hx hb dX12_join_30 rfl (lv_at hl 3 rfl) ?_
      refine g_callV (i := 0) (As := [.int (iI (k)), .int (iI (u))]) (rest := [.int (iI (bI (okPP S k u))), .ref (ix 100)]) K (c_M_canJoin (k) (u) ⟨by omega, by omega⟩ ⟨by omega, by omega⟩ hwf) (cwV 2 hts gM_X12_canJoin rfl rfl rfl (by decide +kernel) ⟨Nat.le_of_ble_eq_true rfl, Nat.le_of_ble_eq_true rfl⟩) hK hW (mW_0 _ _ _ _ _) rfl rfl hl.1 rfl (Nat.le_of_ble_eq_true rfl) dX12_join_31 ⟨Nat.le_refl _, Nat.le_refl _⟩ (fun v_ f_ H locs hp hW => ?_)
      obtain ⟨hpv, hpe⟩ := hp
      rw [hpe] at hW
      have hpv : v_ = some (.int (iI (bI (sJoin S k u)))) := hpv
      subst hpv
      refine xi_ifb_eq (tgt := 41) hx hb dX12_join_34 (by decide) (fun c_5 => ?_) (fun c_5 => ?_)
      · refine xi_iconst hx hb dX12_join_41 ?_
        exact xi_eq (z' := bI (okJ S k u)) (bI_f (by simp only [okJ, c_4, c_5, decide_true, decide_false, Bool.true_and, Bool.and_true, Bool.false_and, Bool.and_false, Bool.true_or, Bool.or_true, Bool.false_or, Bool.or_false, Bool.not_true, Bool.not_false, eq_self])) (j_2 _ _ _ rfl hW)
      · refine xi_iconst hx hb dX12_join_37 ?_
        refine lv_goto (tgt := 42) hx hb dX12_join_38 (by decide) ?_
        exact xi_eq (z' := bI (okJ S k u)) (bI_t (by simp only [okJ, c_4, c_5, decide_true, decide_false, Bool.true_and, Bool.and_true, Bool.false_and, Bool.and_false, Bool.true_or, Bool.or_true, Bool.false_or, Bool.or_false, Bool.not_true, Bool.not_false, eq_self])) (j_2 _ _ _ rfl hW)
  refine lv_aload_n hx hb dX12_join_0 rfl (lv_at hl 0 rfl) ?_
  refine lv_iload_n hx hb dX12_join_1 rfl (lv_at hl 1 rfl) ?_
  refine g_callV (i := 0) (As := [.int (iI (k))]) (rest := []) K (c_M_isPayment (k) ⟨by omega, by omega⟩ hwf) (cwV 1 hts gM_X12_isPayment rfl rfl rfl (by decide +kernel) ⟨Nat.le_of_ble_eq_true rfl, Nat.le_of_ble_eq_true rfl⟩) hK hW (mW_0 _ _ _ _ _) rfl rfl hl.1 rfl (Nat.le_of_ble_eq_true rfl) dX12_join_2 ⟨Nat.le_refl _, Nat.le_refl _⟩ (fun v_ f_ H locs hp hW => ?_)
  obtain ⟨hpv, hpe⟩ := hp
  rw [hpe] at hW
  have hpv : v_ = some (.int (iI (bI (okP S (k))))) := hpv
  subst hpv
  refine xi_ifb_eq (tgt := 20) hx hb dX12_join_5 (by decide) (fun c_6 => ?_) (fun c_6 => ?_)
  · refine xi_iconst hx hb dX12_join_20 ?_
    exact xi_eq (z' := bI (okPP S k u)) (bI_f (by simp only [okPP, c_6, decide_true, decide_false, Bool.true_and, Bool.and_true, Bool.false_and, Bool.and_false, Bool.true_or, Bool.or_true, Bool.false_or, Bool.or_false, Bool.not_true, Bool.not_false, eq_self])) (j_1 _ _ _ rfl hW)
  · refine lv_aload_n hx hb dX12_join_8 rfl (lv_at hl 0 rfl) ?_
    refine lv_iload_n hx hb dX12_join_9 rfl (lv_at hl 2 rfl) ?_
    refine g_callV (i := 0) (As := [.int (iI (u))]) (rest := []) K (c_M_isPayment (u) ⟨by omega, by omega⟩ hwf) (cwV 1 hts gM_X12_isPayment rfl rfl rfl (by decide +kernel) ⟨Nat.le_of_ble_eq_true rfl, Nat.le_of_ble_eq_true rfl⟩) hK hW (mW_0 _ _ _ _ _) rfl rfl hl.1 rfl (Nat.le_of_ble_eq_true rfl) dX12_join_10 ⟨Nat.le_refl _, Nat.le_refl _⟩ (fun v_ f_ H locs hp hW => ?_)
    obtain ⟨hpv, hpe⟩ := hp
    rw [hpe] at hW
    have hpv : v_ = some (.int (iI (bI (okP S (u))))) := hpv
    subst hpv
    refine xi_ifb_eq (tgt := 20) hx hb dX12_join_13 (by decide) (fun c_7 => ?_) (fun c_7 => ?_)
    · refine xi_iconst hx hb dX12_join_20 ?_
      exact xi_eq (z' := bI (okPP S k u)) (bI_f (by simp only [okPP, c_6, c_7, decide_true, decide_false, Bool.true_and, Bool.and_true, Bool.false_and, Bool.and_false, Bool.true_or, Bool.or_true, Bool.false_or, Bool.or_false, Bool.not_true, Bool.not_false, eq_self])) (j_1 _ _ _ rfl hW)
    · refine xi_iconst hx hb dX12_join_16 ?_
      refine lv_goto (tgt := 21) hx hb dX12_join_17 (by decide) ?_
      exact xi_eq (z' := bI (okPP S k u)) (bI_t (by simp only [okPP, c_6, c_7, decide_true, decide_false, Bool.true_and, Bool.and_true, Bool.false_and, Bool.and_false, Bool.true_or, Bool.or_true, Bool.false_or, Bool.or_false, Bool.not_true, Bool.not_false, eq_self])) (j_1 _ _ _ rfl hW)
