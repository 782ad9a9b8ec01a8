/-! the words of: who is last, the queue, what comes, what is returned -/
def laN (S : ST) (I : Int → Bool) (b u : Int) (q : Bool) (l n : Int) : Int := if (I n && decide (S.1 9 n = b) && (decide (u = -1) || decide (S.1 10 n = u)) && (decide (l = -1) || !q || decide (S.1 14 n ≤ S.1 14 l))) = true then n else l
def laS (S : ST) (I : Int → Bool) (b u : Int) (q : Bool) : Nat → Int
  | 0 => -1
  | n + 1 => laN S I b u q (laS S I b u q n) n
theorem laS_s (S : ST) (I : Int → Bool) (b u : Int) (q : Bool) (n : Nat) : laS S I b u q (n + 1) = laN S I b u q (laS S I b u q n) n := rfl
theorem laN_r {S : ST} {I : Int → Bool} {b u : Int} {q : Bool} {l n m : Int} (hl : -1 ≤ l ∧ l < n) (hn : 0 ≤ n ∧ n < m) : -1 ≤ laN S I b u q l n ∧ laN S I b u q l n < m := by
  unfold laN
  split <;> omega
def isQ (S : ST) (b c h k : Int) : Bool := decide (S.1 18 k = 2) && decide (S.1 9 k = b) && decide (S.1 11 k = c) && decide (S.1 14 k = h)
def qR (S : ST) (b c h : Int) : Nat → List Int
  | 0 => []
  | n + 1 => qR S b c h n ++ (if isQ S b c h n = true then [(n : Int)] else [])
theorem qR_s (S : ST) (b c h : Int) (n : Nat) : qR S b c h (n + 1) = qR S b c h n ++ (if isQ S b c h n = true then [(n : Int)] else []) := rfl
theorem qR_pre (S : ST) (b c h : Int) (n m : Nat) : ∃ r, qR S b c h (n + m) = qR S b c h n ++ r := by
  induction m with
  | zero => exact ⟨[], by simp⟩
  | succ m ih =>
    obtain ⟨r, hr⟩ := ih
    refine ⟨r ++ (if isQ S b c h (n + m : Nat) = true then [((n + m : Nat) : Int)] else []), ?_⟩
    show qR S b c h (n + m + 1) = _
    rw [qR_s, hr, List.append_assoc]
/-- the queue of a bank in a currency: by falling ranks, then by rising numbers -/
def qL (S : ST) (b c : Int) : List Int := qR S b c 2 (S.1 8 0).toNat ++ (qR S b c 1 (S.1 8 0).toNat ++ qR S b c 0 (S.1 8 0).toNat)
def qAt (S : ST) (b c p : Int) : Int := (qL S b c).getD p.toNat (-1)
/-- what stands in it ahead of the number k of the rank h -/
def qP (S : ST) (b c h : Int) (k : Nat) : List Int := (if h < 2 then qR S b c 2 (S.1 8 0).toNat else []) ++ ((if h < 1 then qR S b c 1 (S.1 8 0).toNat else []) ++ ((if h < 0 then qR S b c 0 (S.1 8 0).toNat else []) ++ (if h < 0 then [] else qR S b c h k)))
theorem qP_0 (S : ST) (b c : Int) : qP S b c 2 0 = [] := by simp [qP, qR]
theorem qP_s (S : ST) (b c h : Int) (k : Nat) (h0 : 0 ≤ h) : qP S b c h (k + 1) = qP S b c h k ++ (if isQ S b c h k = true then [(k : Int)] else []) := by
  unfold qP
  rw [qR_s, if_neg (show ¬ h < 0 by omega), if_neg (show ¬ h < 0 by omega), if_neg (show ¬ h < 0 by omega)]
  simp only [List.append_assoc, List.nil_append]
theorem qP_n (S : ST) (b c h : Int) (h0 : 0 ≤ h ∧ h ≤ 2) : qP S b c h (S.1 8 0).toNat = qP S b c (h - 1) 0 := by
  rcases (show h = 0 ∨ h = 1 ∨ h = 2 by omega) with rfl | rfl | rfl <;> simp [qP, qR]
theorem qP_end (S : ST) (b c : Int) (k : Nat) : qP S b c (-1) k = qL S b c := by simp [qP, qL]
theorem qP_pre (S : ST) (b c h : Int) (k : Nat) (h0 : 0 ≤ h ∧ h ≤ 2) (hk : k ≤ (S.1 8 0).toNat) : ∃ r, qL S b c = qP S b c h k ++ r := by
  obtain ⟨m, hm⟩ : ∃ m, (S.1 8 0).toNat = k + m := ⟨(S.1 8 0).toNat - k, by omega⟩
  obtain ⟨r, hr⟩ := qR_pre S b c h k m
  rw [← hm] at hr
  rcases (show h = 0 ∨ h = 1 ∨ h = 2 by omega) with rfl | rfl | rfl
  · exact ⟨r, by simp [qP, qL, hr]⟩
  · exact ⟨r ++ qR S b c 0 (S.1 8 0).toNat, by simp [qP, qL, hr]⟩
  · exact ⟨r ++ (qR S b c 1 (S.1 8 0).toNat ++ qR S b c 0 (S.1 8 0).toNat), by simp [qP, qL, hr]⟩
theorem qP_hit {S : ST} {b c h k p : Int} (h0 : 0 ≤ h ∧ h ≤ 2) (hk : 0 ≤ k ∧ k < S.1 8 0) (hq : isQ S b c h k = true) (hp : p = (qP S b c h k.toNat).length) : k = qAt S b c p := by
  obtain ⟨r, hr⟩ := qP_pre S b c h (k.toNat + 1) h0 (by omega)
  rw [qP_s _ _ _ _ _ h0.1, show ((k.toNat : Nat) : Int) = k by omega, if_pos hq] at hr
  unfold qAt
  rw [hr, hp, List.getD_eq_getElem?_getD, Int.toNat_natCast, List.append_assoc, List.getElem?_append_right (Nat.le_refl _)]
  simp
theorem qP_miss {S : ST} {b c p : Int} (hp : ((qL S b c).length : Int) ≤ p) : -1 = qAt S b c p := by
  unfold qAt
  rw [List.getD_eq_getElem?_getD, List.getElem?_eq_none (by omega)]
  rfl
def sEntV (S : ST) (k : Int) : Int := if (!decide (S.1 7 (S.1 13 k) = 0) && decide (S.1 19 k = 0)) = true then 1 else if S.1 15 k = 0 then 3 else 2
def sEnter (S : ST) (k : Int) : ST := pI S 18 k (sEntV S k)
def sCom1 (S : ST) (b u c v nm h : Int) (rl : Bool) (d : Int) (st : Bool) : ST := pI (pI (pI (pI (pI (pI (pI (pI (pI (pI (pI (pI (pI (pI S 8 0 (S.1 8 0 + 1)) 9 (S.1 8 0) b) 10 (S.1 8 0) u) 11 (S.1 8 0) c) 12 (S.1 8 0) v) 13 (S.1 8 0) nm) 14 (S.1 8 0) h) 15 (S.1 8 0) (bI rl)) 16 (S.1 8 0) d) 17 (S.1 8 0) (bI st)) 20 (S.1 8 0) (-1)) 21 (S.1 8 0) (-1)) 23 (S.1 8 0) (-1)) 18 (S.1 8 0) 0
def gCome (S : ST) (k : Int) : ST := pI (pI (pI S 40 k (-1)) 41 k (-1)) 42 k (-1)
/-- a payment comes: it waits, or enters -/
def sCome (S : ST) (b u c v nm h : Int) (rl : Bool) (d : Int) (st : Bool) : ST := gCome (if (decide (d ≤ S.1 0 0) && sOpen S c (S.1 0 0)) = true then sEnter (sCom1 S b u c v nm h rl d st) (S.1 8 0) else sCom1 S b u c v nm h rl d st) (S.1 8 0)
theorem mW_gCome {cy : Nat → ClassId} {ix : Nat → Nat} {S X : ST} {G : gF} {k : Int} : mW cy ix (gCome S k) X G = mW cy ix S X G := by
  unfold gCome
  rw [mW_g (by decide) rfl, mW_g (by decide) rfl, mW_g (by decide) rfl]
def sAlk (S : ST) (k u c v nm h : Int) (rl : Bool) (d : Int) (st : Bool) : Bool := decide (S.1 10 k = u) && decide (S.1 11 k = c) && decide (S.1 12 k = v) && decide (S.1 13 k = nm) && decide (S.1 14 k = h) && decide (S.1 15 k = bI rl) && decide (S.1 16 k = d) && decide (S.1 17 k = bI st)
def sJ1 (S : ST) (k u : Int) : Bool := !decide (k = u) && !sEnds S k && !sEnds S u && !decide (S.1 15 k = 0) && !decide (S.1 15 u = 0) && !decide (S.1 11 k = S.1 11 u)
def sJoin (S : ST) (k u : Int) : Bool := sJ1 S k u && decide (S.1 9 k = S.1 10 u) && decide (S.1 10 k = S.1 9 u) && decide (S.1 21 k = -1) && decide (S.1 21 u = -1)
def sRe1 (S : ST) (k : Int) : Bool := !decide (S.1 21 k = -1) && !decide ((pI S 18 k 5).1 18 (S.1 21 k) = 5)
def sRet (S : ST) (k : Int) : ST := if sRe1 S k = true then pI (pI S 18 k 5) 18 (S.1 21 k) 5 else pI S 18 k 5
def sRetN (S : ST) (k : Int) : Int := if sRe1 S k = true then 2 else 1
/-- the advices of a bank, in the order of what became FINAL -/
def aL (S : ST) (b : Int) : Nat → List Int
  | 0 => []
  | n + 1 => aL S b n ++ (if S.1 10 (S.1 28 n) = b then [S.1 28 n] else [])
theorem aL_s (S : ST) (b : Int) (n : Nat) : aL S b (n + 1) = aL S b n ++ (if S.1 10 (S.1 28 n) = b then [S.1 28 n] else []) := rfl
theorem aL_pre (S : ST) (b : Int) (n m : Nat) : ∃ r, aL S b (n + m) = aL S b n ++ r := by
  induction m with
  | zero => exact ⟨[], by simp⟩
  | succ m ih =>
    obtain ⟨r, hr⟩ := ih
    refine ⟨r ++ (if S.1 10 (S.1 28 (n + m : Nat)) = b then [S.1 28 (n + m : Nat)] else []), ?_⟩
    show aL S b (n + m + 1) = _
    rw [aL_s, hr, List.append_assoc]
def aAt (S : ST) (b p : Int) : Int := (aL S b (S.1 27 0).toNat).getD p.toNat (-1)
theorem aL_hit {S : ST} {b k p : Int} (hk : 0 ≤ k ∧ k < S.1 27 0) (hq : S.1 10 (S.1 28 k) = b) (hp : p = (aL S b k.toNat).length) : S.1 28 k = aAt S b p := by
  obtain ⟨m, hm⟩ : ∃ m, (S.1 27 0).toNat = (k.toNat + 1) + m := ⟨(S.1 27 0).toNat - (k.toNat + 1), by omega⟩
  obtain ⟨r, hr⟩ := aL_pre S b (k.toNat + 1) m
  rw [← hm, aL_s, show ((k.toNat : Nat) : Int) = k by omega, if_pos hq] at hr
  unfold aAt
  rw [hr, hp, List.getD_eq_getElem?_getD, Int.toNat_natCast, List.append_assoc, List.getElem?_append_right (Nat.le_refl _)]
  simp
theorem aL_miss {S : ST} {b p : Int} (hp : ((aL S b (S.1 27 0).toNat).length : Int) ≤ p) : -1 = aAt S b p := by
  unfold aAt
  rw [List.getD_eq_getElem?_getD, List.getElem?_eq_none (by omega)]
  rfl
theorem anB_s (q : Int → Bool) (n : Nat) : anB q (n + 1) = (anB q n || q n) := rfl
set_option maxHeartbeats 4000000 in
set_option maxRecDepth 100000 in
theorem c_M_isShortAny {l : Launch} {D : va_G} {cy : Nat → ClassId} {B0 : Nat} {ix : Nat → Nat} {S : ST} {I : Int → Bool} {aM qM : Int → Int64} {tM : Int} {G : gF} (c : Int) (hc : 0 ≤ c ∧ c ≤ 2) (hwf : wf S) : gM l yX12_isShortAny vX12_isShortAny 2 44 D cy B0 [.ref (ix 100), .int (iI c)] (mW cy ix S (mX I aM qM tM) G) (fun r g => r = some (.int (iI (bI (anB (fun b => shX S aM b c) 6)))) ∧ g = mW cy ix S (mX I aM qM tM) G) 0 0 := by
  refine g_start (cc := cX12_isShortAny) (maxL := 4) (ret := (some .boolean)) (by decide) rfl (Nat.le_of_ble_eq_true rfl) ?_
  intro p_ e_ s_ m_ be_ me_ co_ ls H locs K hr hlk hnm hK hW hl
  have hin : ∀ w ∈ wsX120, w ∈ vX12_isShortAny := wsM_cls
  obtain ⟨hx, hb, hml, hown, hts⟩ := id K
  have hl : lv_has ls 4 [(0, .ref (ix 100)), (1, .int (iI (c)))] := hl
  refine xi_iconst hx hb dX12_isShortAny_0 ?_
  refine lv_istore_n (lv' := [(2, .int (iI (0))), (0, .ref (ix 100)), (1, .int (iI (c)))]) hx hb dX12_isShortAny_1 rfl hl (by decide) rfl (fun ls hl => ?_)
  refine xi_iconst hx hb dX12_isShortAny_2 ?_
  refine lv_istore_n (lv' := [(3, .int (iI (0))), (2, .int (iI (0))), (0, .ref (ix 100)), (1, .int (iI (c)))]) hx hb dX12_isShortAny_3 rfl hl (by decide) rfl (fun ls hl => ?_)
  refine lp_w1 (Wg := fun (H : Heap) (locs : List Loc) (ls : Array Slot) => W p_ l e_ { frames := 2, cells := 0, slots := 0, locals := 44 } s_ m_ ([.ref (ix 100), .int (iI c)] : List Value).toArray be_ me_ co_ H locs 0 0 (MQ be_ (gQ D B0 (fun (r : Option Value) (g : gF) => r = some (.int (iI (bI (anB (fun b => shX S aM b c) 6)))) ∧ g = mW cy ix S (mX I aM qM tM) G)) ([.ref (ix 100), .int (iI c)] : List Value).toArray s_ 0 0 (fun q : Nat => B0 ≤ q)) (F0 m_ 4 ls [])) (fun (k : Int) (H : Heap) (locs : List Loc) (ls : Array Slot) => (0 ≤ k ∧ k ≤ 6) ∧ gW D B0 s_ (mW cy ix S (mX (I) (aM) (qM) (tM)) G) H locs ∧ lv_has ls 4 [(3, .int (iI (k))), (2, .int (iI (bI (anB (fun b => shX S aM b c) k.toNat)))), (1, .int (iI (c))), (0, .ref (ix 100))]) (fun (k : Int) => (6 - k).toNat) (fun k H locs ls hI ih_lp_1 => ?_) (0) _ _ _ ⟨⟨by omega, by omega⟩, hW, lv_sub hl [0, 1, 3, 2] rfl⟩
  obtain ⟨hI_lp_1, hW, hl⟩ := hI
  refine lv_iload_n hx hb dX12_isShortAny_4 rfl (lv_at hl 0 rfl) ?_
  refine xi_bipush hx hb dX12_isShortAny_5 (by decide) ?_
  refine xi_icmp_ge (tgt := 35) hx hb ⟨by omega, by omega⟩ ⟨by omega, by omega⟩ dX12_isShortAny_7 (by decide) (fun c_2 => ?_) (fun c_2 => ?_)
  · refine lv_iload_n hx hb dX12_isShortAny_35 rfl (lv_at hl 1 rfl) ?_
    exact g_zret hx hb hr (bI_01 _) hW ⟨by rw [show k = 6 by omega]; rfl, rfl⟩ dX12_isShortAny_36 hlk
  · have j_3 : ∀ (zJ : Bool) (H : Heap) (locs : List Loc), zJ = (anB (fun b => shX S aM b c) k.toNat || shX S aM k c) → gW D B0 s_ (mW cy ix S (mX (I) (aM) (qM) (tM)) G) H locs → W p_ l e_ { frames := 2, cells := 0, slots := 0, locals := 44 } s_ m_ ([.ref (ix 100), .int (iI c)] : List Value).toArray be_ me_ co_ H locs 0 0 (MQ be_ (gQ D B0 (fun (r : Option Value) (g : gF) => r = some (.int (iI (bI (anB (fun b => shX S aM b c) 6)))) ∧ g = mW cy ix S (mX I aM qM tM) G)) ([.ref (ix 100), .int (iI c)] : List Value).toArray s_ 0 0 (fun q : Nat => B0 ≤ q)) (F0 m_ 28 ls [.int (iI (bI (zJ)))]) := by
      intro zJ H locs hzJ hW
      subst hzJ
      refine lv_istore_n (lv' := [(2, .int (iI (bI (anB (fun b => shX S aM b c) k.toNat || shX S aM k c)))), (3, .int (iI (k))), (1, .int (iI (c))), (0, .ref (ix 100))]) hx hb dX12_isShortAny_28 rfl hl (by decide) rfl (fun ls hl => ?_)
      have hl : lv_has ls 4 [(2, .int (iI (bI (anB (fun b => shX S aM b c) (k + 1).toNat)))), (3, .int (iI (k))), (1, .int (iI (c))), (0, .ref (ix 100))] := by
        have hbe : (anB (fun b => shX S aM b c) k.toNat || shX S aM k c) = (anB (fun b => shX S aM b c) (k + 1).toNat) := by rw [show (k + 1).toNat = k.toNat + 1 by omega, anB_s _ k.toNat, show ((k.toNat : Nat) : Int) = k by omega]
        rw [← hbe]; exact hl
      refine xi_iinc (lv' := [(3, .int (iI (k + 1))), (2, .int (iI (bI (anB (fun b => shX S aM b c) (k + 1).toNat)))), (1, .int (iI (c))), (0, .ref (ix 100))]) hx hb dX12_isShortAny_29 hl (k := 1) rfl (by decide) rfl (fun ls hl => ?_)
      refine lv_goto (tgt := 4) hx hb dX12_isShortAny_32 (by decide) ?_
      exact ih_lp_1 (k + 1) _ _ _ (by first | omega | (dsimp only; omega)) ⟨⟨by omega, by omega⟩, hW, lv_sub hl [0, 1, 2, 3] rfl⟩
    refine lv_iload_n hx hb dX12_isShortAny_10 rfl (lv_at hl 1 rfl) ?_
    refine xi_ifb_ne (tgt := 23) hx hb dX12_isShortAny_11 (by decide) (fun c_4 => ?_) (fun c_4 => ?_)
    · refine xi_iconst hx hb dX12_isShortAny_23 ?_
      refine lv_goto (tgt := 28) hx hb dX12_isShortAny_24 (by decide) ?_
      exact xi_eq (z' := bI (anB (fun b => shX S aM b c) k.toNat || shX S aM k c)) (bI_t (by simp only [c_2, Int.not_le.mpr c_2, c_4, decide_true, decide_false, Bool.true_and, Bool.and_true, Bool.false_and, Bool.and_false, Bool.true_or, Bool.or_true, Bool.false_or, Bool.or_false, Bool.not_true, Bool.not_false, eq_self])) (j_3 _ _ _ rfl hW)
    · refine lv_aload_n hx hb dX12_isShortAny_14 rfl (lv_at hl 3 rfl) ?_
      refine lv_iload_n hx hb dX12_isShortAny_15 rfl (lv_at hl 0 rfl) ?_
      refine lv_iload_n hx hb dX12_isShortAny_16 rfl (lv_at hl 2 rfl) ?_
      refine g_callV (i := 0) (As := [.int (iI (k)), .int (iI (c))]) (rest := []) K (c_M_isShort (k) (c) ⟨by omega, by omega⟩ ⟨by omega, by omega⟩ hwf) (cwV 2 hts gM_X12_isShort rfl rfl rfl (by decide +kernel) ⟨Nat.le_of_ble_eq_true rfl, Nat.le_of_ble_eq_true rfl⟩) hK hW (mW_0 _ _ _ _ _) rfl rfl hl.1 rfl (Nat.le_of_ble_eq_true rfl) dX12_isShortAny_17 ⟨Nat.le_refl _, Nat.le_refl _⟩ (fun v_ f_ H locs hp hW => ?_)
      obtain ⟨hpv, hpe⟩ := hp
      rw [hpe] at hW
      have hpv : v_ = some (.int (iI (bI (shX S aM (k) (c))))) := hpv
      subst hpv
      refine xi_ifb_eq (tgt := 27) hx hb dX12_isShortAny_20 (by decide) (fun c_5 => ?_) (fun c_5 => ?_)
      · refine xi_iconst hx hb dX12_isShortAny_27 ?_
        exact xi_eq (z' := bI (anB (fun b => shX S aM b c) k.toNat || shX S aM k c)) (bI_f (by simp only [c_2, Int.not_le.mpr c_2, c_4, c_5, decide_true, decide_false, Bool.true_and, Bool.and_true, Bool.false_and, Bool.and_false, Bool.true_or, Bool.or_true, Bool.false_or, Bool.or_false, Bool.not_true, Bool.not_false, eq_self])) (j_3 _ _ _ rfl hW)
      · refine xi_iconst hx hb dX12_isShortAny_23 ?_
        refine lv_goto (tgt := 28) hx hb dX12_isShortAny_24 (by decide) ?_
        exact xi_eq (z' := bI (anB (fun b => shX S aM b c) k.toNat || shX S aM k c)) (bI_t (by simp only [c_2, Int.not_le.mpr c_2, c_4, c_5, decide_true, decide_false, Bool.true_and, Bool.and_true, Bool.false_and, Bool.and_false, Bool.true_or, Bool.or_true, Bool.false_or, Bool.or_false, Bool.not_true, Bool.not_false, eq_self])) (j_3 _ _ _ rfl hW)
def wkB (S : ST) (I : Int → Bool) (k : Int) : Bool := !I k || moves S k
set_option maxHeartbeats 4000000 in
set_option maxRecDepth 100000 in
theorem c_M_areAtWork {l : Launch} {D : va_G} {cy : Nat → ClassId} {B0 : Nat} {ix : Nat → Nat} {S : ST} {I : Int → Bool} {aM qM : Int → Int64} {tM : Int} {G : gF}  (hwf : wf S) : gM l yX12_areAtWork vX12_areAtWork 1 22 D cy B0 [.ref (ix 100)] (mW cy ix S (mX I aM qM tM) G) (fun r g => r = some (.int (iI (bI (wrkS S I (S.1 8 0).toNat)))) ∧ g = mW cy ix S (mX I aM qM tM) G) 0 0 := by
  refine g_start (cc := cX12_areAtWork) (maxL := 3) (ret := (some .boolean)) (by decide) rfl (Nat.le_of_ble_eq_true rfl) ?_
  intro p_ e_ s_ m_ be_ me_ co_ ls H locs K hr hlk hnm hK hW hl
  have hin : ∀ w ∈ wsX120, w ∈ vX12_areAtWork := wsM_cls
  obtain ⟨hx, hb, hml, hown, hts⟩ := id K
  have hl : lv_has ls 3 [(0, .ref (ix 100))] := hl
  refine xi_iconst hx hb dX12_areAtWork_0 ?_
  refine lv_istore_n (lv' := [(1, .int (iI (1))), (0, .ref (ix 100))]) hx hb dX12_areAtWork_1 rfl hl (by decide) rfl (fun ls hl => ?_)
  refine xi_iconst hx hb dX12_areAtWork_2 ?_
  refine lv_istore_n (lv' := [(2, .int (iI (0))), (1, .int (iI (1))), (0, .ref (ix 100))]) hx hb dX12_areAtWork_3 rfl hl (by decide) rfl (fun ls hl => ?_)
  refine lp_w1 (Wg := fun (H : Heap) (locs : List Loc) (ls : Array Slot) => W p_ l e_ { frames := 1, cells := 0, slots := 0, locals := 22 } s_ m_ ([.ref (ix 100)] : List Value).toArray be_ me_ co_ H locs 0 0 (MQ be_ (gQ D B0 (fun (r : Option Value) (g : gF) => r = some (.int (iI (bI (wrkS S I (S.1 8 0).toNat)))) ∧ g = mW cy ix S (mX I aM qM tM) G)) ([.ref (ix 100)] : List Value).toArray s_ 0 0 (fun q : Nat => B0 ≤ q)) (F0 m_ 4 ls [])) (fun (k : Int) (H : Heap) (locs : List Loc) (ls : Array Slot) => (0 ≤ k ∧ k ≤ S.1 8 0) ∧ gW D B0 s_ (mW cy ix S (mX (I) (aM) (qM) (tM)) G) H locs ∧ lv_has ls 3 [(2, .int (iI (k))), (1, .int (iI (bI (alB (wkB S I) k.toNat)))), (0, .ref (ix 100))]) (fun (k : Int) => (60 - k).toNat) (fun k H locs ls hI ih_lp_1 => ?_) (0) _ _ _ ⟨⟨by omega, (wf_8 hwf 0).1⟩, hW, lv_sub hl [0, 1, 2] rfl⟩
  obtain ⟨hI_lp_1, hW, hl⟩ := hI
  refine lv_iload_n hx hb dX12_areAtWork_4 rfl (lv_at hl 0 rfl) ?_
  refine lv_aload_n hx hb dX12_areAtWork_5 rfl (lv_at hl 2 rfl) ?_
  refine mr_get K hK hW hin 8 (by decide) lM_payments (v := .int (iI (S.1 8 (0)))) rfl dX12_areAtWork_6 ?_
  have w_w_2 := wf_8 hwf 0
  refine xi_icmp_ge (tgt := 82) hx hb ⟨by omega, by omega⟩ ⟨by omega, by omega⟩ dX12_areAtWork_9 (by decide) (fun c_3 => ?_) (fun c_3 => ?_)
  · refine lv_iload_n hx hb dX12_areAtWork_82 rfl (lv_at hl 1 rfl) ?_
    exact g_zret hx hb hr (bI_01 _) hW ⟨by rw [show S.1 8 0 = k by omega]; rfl, rfl⟩ dX12_areAtWork_83 hlk
  · have j_4 : ∀ (zJ : Bool) (H : Heap) (locs : List Loc), zJ = (alB (wkB S I) k.toNat && wkB S I k) → gW D B0 s_ (mW cy ix S (mX (I) (aM) (qM) (tM)) G) H locs → W p_ l e_ { frames := 1, cells := 0, slots := 0, locals := 22 } s_ m_ ([.ref (ix 100)] : List Value).toArray be_ me_ co_ H locs 0 0 (MQ be_ (gQ D B0 (fun (r : Option Value) (g : gF) => r = some (.int (iI (bI (wrkS S I (S.1 8 0).toNat)))) ∧ g = mW cy ix S (mX I aM qM tM) G)) ([.ref (ix 100)] : List Value).toArray s_ 0 0 (fun q : Nat => B0 ≤ q)) (F0 m_ 75 ls [.int (iI (bI (zJ)))]) := by
      intro zJ H locs hzJ hW
      subst hzJ
      refine lv_istore_n (lv' := [(1, .int (iI (bI (alB (wkB S I) k.toNat && wkB S I k)))), (2, .int (iI (k))), (0, .ref (ix 100))]) hx hb dX12_areAtWork_75 rfl hl (by decide) rfl (fun ls hl => ?_)
      have hl : lv_has ls 3 [(1, .int (iI (bI (alB (wkB S I) (k + 1).toNat)))), (2, .int (iI (k))), (0, .ref (ix 100))] := by
        have hbe : (alB (wkB S I) k.toNat && wkB S I k) = (alB (wkB S I) (k + 1).toNat) := by rw [show (k + 1).toNat = k.toNat + 1 by omega, alB_s _ k.toNat, show ((k.toNat : Nat) : Int) = k by omega]
        rw [← hbe]; exact hl
      refine xi_iinc (lv' := [(2, .int (iI (k + 1))), (1, .int (iI (bI (alB (wkB S I) (k + 1).toNat)))), (0, .ref (ix 100))]) hx hb dX12_areAtWork_76 hl (k := 1) rfl (by decide) rfl (fun ls hl => ?_)
      refine lv_goto (tgt := 4) hx hb dX12_areAtWork_79 (by decide) ?_
      exact ih_lp_1 (k + 1) _ _ _ (by have := wf_8 hwf 0; first | omega | (dsimp only; omega)) ⟨⟨by omega, by omega⟩, hW, lv_sub hl [0, 1, 2] rfl⟩
    refine lv_iload_n hx hb dX12_areAtWork_12 rfl (lv_at hl 1 rfl) ?_
    refine xi_ifb_eq (tgt := 74) hx hb dX12_areAtWork_13 (by decide) (fun c_5 => ?_) (fun c_5 => ?_)
    · refine xi_iconst hx hb dX12_areAtWork_74 ?_
      exact xi_eq (z' := bI (alB (wkB S I) k.toNat && wkB S I k)) (bI_f (by simp only [wkB, moves, c_3, Int.not_le.mpr c_3, c_5, decide_true, decide_false, Bool.true_and, Bool.and_true, Bool.false_and, Bool.and_false, Bool.true_or, Bool.or_true, Bool.false_or, Bool.or_false, Bool.not_true, Bool.not_false, eq_self])) (j_4 _ _ _ rfl hW)
    · refine lv_aload_n hx hb dX12_areAtWork_16 rfl (lv_at hl 2 rfl) ?_
      refine mr_get K hK hW hin 33 (by decide) lM_isIn (v := .ref (ix 133)) rfl dX12_areAtWork_17 ?_
      refine lv_iload_n hx hb dX12_areAtWork_20 rfl (lv_at hl 0 rfl) ?_
      refine mr_zald K hK hW 33 (by decide) rfl (n := 60) rfl rfl ⟨by omega, by omega⟩ (v := bI (I (k))) rfl dX12_areAtWork_21 ?_
      refine xi_ifb_eq (tgt := 70) hx hb dX12_areAtWork_22 (by decide) (fun c_6 => ?_) (fun c_6 => ?_)
      · refine xi_iconst hx hb dX12_areAtWork_70 ?_
        refine lv_goto (tgt := 75) hx hb dX12_areAtWork_71 (by decide) ?_
        exact xi_eq (z' := bI (alB (wkB S I) k.toNat && wkB S I k)) (bI_t (by simp only [wkB, moves, c_3, Int.not_le.mpr c_3, c_5, c_6, decide_true, decide_false, Bool.true_and, Bool.and_true, Bool.false_and, Bool.and_false, Bool.true_or, Bool.or_true, Bool.false_or, Bool.or_false, Bool.not_true, Bool.not_false, eq_self])) (j_4 _ _ _ rfl hW)
      · refine lv_aload_n hx hb dX12_areAtWork_25 rfl (lv_at hl 2 rfl) ?_
        refine lv_aload_n hx hb dX12_areAtWork_26 rfl (lv_at hl 2 rfl) ?_
        refine mr_get K hK hW hin 11 (by decide) lM_currency (v := .ref (ix 111)) rfl dX12_areAtWork_27 ?_
        refine lv_iload_n hx hb dX12_areAtWork_30 rfl (lv_at hl 0 rfl) ?_
        refine mr_iald K hK hW 11 (by decide) rfl (n := 60) rfl rfl ⟨by omega, by omega⟩ (v := S.1 11 (k)) rfl dX12_areAtWork_31 ?_
        have w_7 := wf_11 hwf (k)
        refine lv_aload_n hx hb dX12_areAtWork_32 rfl (lv_at hl 2 rfl) ?_
        refine mr_get K hK hW hin 0 (by decide) lM_today (v := .int (iI (S.1 0 (0)))) rfl dX12_areAtWork_33 ?_
        have w_w_8 := wf_0 hwf 0
        refine g_callV (i := 0) (As := [.int (iI (S.1 11 (k))), .int (iI (S.1 0 (0)))]) (rest := []) K (c_M_isOpen (S.1 11 (k)) (S.1 0 (0)) ⟨by omega, by omega⟩ ⟨by omega, by omega⟩ hwf) (cwV 2 hts gM_X12_isOpen rfl rfl rfl (by decide +kernel) ⟨Nat.le_of_ble_eq_true rfl, Nat.le_of_ble_eq_true rfl⟩) hK hW (mW_0 _ _ _ _ _) rfl rfl hl.1 rfl (Nat.le_of_ble_eq_true rfl) dX12_areAtWork_36 ⟨Nat.le_refl _, Nat.le_refl _⟩ (fun v_ f_ H locs hp hW => ?_)
        obtain ⟨hpv, hpe⟩ := hp
        rw [hpe] at hW
        have hpv : v_ = some (.int (iI (bI (sOpen S (S.1 11 (k)) (S.1 0 (0)))))) := hpv
        subst hpv
        refine xi_ifb_eq (tgt := 74) hx hb dX12_areAtWork_39 (by decide) (fun c_9 => ?_) (fun c_9 => ?_)
        · refine xi_iconst hx hb dX12_areAtWork_74 ?_
          exact xi_eq (z' := bI (alB (wkB S I) k.toNat && wkB S I k)) (bI_f (by simp only [wkB, moves, c_3, Int.not_le.mpr c_3, c_5, c_6, c_9, decide_true, decide_false, Bool.true_and, Bool.and_true, Bool.false_and, Bool.and_false, Bool.true_or, Bool.or_true, Bool.false_or, Bool.or_false, Bool.not_true, Bool.not_false, eq_self])) (j_4 _ _ _ rfl hW)
        · refine lv_aload_n hx hb dX12_areAtWork_42 rfl (lv_at hl 2 rfl) ?_
          refine mr_get K hK hW hin 5 (by decide) lM_isOut (v := .ref (ix 105)) rfl dX12_areAtWork_43 ?_
          refine lv_aload_n hx hb dX12_areAtWork_46 rfl (lv_at hl 2 rfl) ?_
          refine mr_get K hK hW hin 9 (by decide) lM_from (v := .ref (ix 109)) rfl dX12_areAtWork_47 ?_
          refine lv_iload_n hx hb dX12_areAtWork_50 rfl (lv_at hl 0 rfl) ?_
          refine mr_iald K hK hW 9 (by decide) rfl (n := 60) rfl rfl ⟨by omega, by omega⟩ (v := S.1 9 (k)) rfl dX12_areAtWork_51 ?_
          have w_10 := wf_9 hwf (k)
          refine mr_zald K hK hW 5 (by decide) rfl (n := 6) rfl rfl ⟨by omega, by omega⟩ (v := S.1 5 (S.1 9 (k))) rfl dX12_areAtWork_52 ?_
          have w_11 := wf_5 hwf (S.1 9 (k))
          refine xi_if_ne (tgt := 74) hx hb ⟨by omega, by omega⟩ dX12_areAtWork_53 (by decide) (fun c_12 => ?_) (fun c_12 => ?_)
          · refine xi_iconst hx hb dX12_areAtWork_74 ?_
            exact xi_eq (z' := bI (alB (wkB S I) k.toNat && wkB S I k)) (bI_f (by simp only [wkB, moves, c_3, Int.not_le.mpr c_3, c_5, c_6, c_9, c_12, decide_true, decide_false, Bool.true_and, Bool.and_true, Bool.false_and, Bool.and_false, Bool.true_or, Bool.or_true, Bool.false_or, Bool.or_false, Bool.not_true, Bool.not_false, eq_self])) (j_4 _ _ _ rfl hW)
          · refine lv_aload_n hx hb dX12_areAtWork_56 rfl (lv_at hl 2 rfl) ?_
            refine mr_get K hK hW hin 5 (by decide) lM_isOut (v := .ref (ix 105)) rfl dX12_areAtWork_57 ?_
            refine lv_aload_n hx hb dX12_areAtWork_60 rfl (lv_at hl 2 rfl) ?_
            refine mr_get K hK hW hin 10 (by decide) lM_to (v := .ref (ix 110)) rfl dX12_areAtWork_61 ?_
            refine lv_iload_n hx hb dX12_areAtWork_64 rfl (lv_at hl 0 rfl) ?_
            refine mr_iald K hK hW 10 (by decide) rfl (n := 60) rfl rfl ⟨by omega, by omega⟩ (v := S.1 10 (k)) rfl dX12_areAtWork_65 ?_
            have w_13 := wf_10 hwf (k)
            refine mr_zald K hK hW 5 (by decide) rfl (n := 6) rfl rfl ⟨by omega, by omega⟩ (v := S.1 5 (S.1 10 (k))) rfl dX12_areAtWork_66 ?_
            have w_14 := wf_5 hwf (S.1 10 (k))
            refine xi_if_ne (tgt := 74) hx hb ⟨by omega, by omega⟩ dX12_areAtWork_67 (by decide) (fun c_15 => ?_) (fun c_15 => ?_)
            · refine xi_iconst hx hb dX12_areAtWork_74 ?_
              exact xi_eq (z' := bI (alB (wkB S I) k.toNat && wkB S I k)) (bI_f (by simp only [wkB, moves, c_3, Int.not_le.mpr c_3, c_5, c_6, c_9, c_12, c_15, decide_true, decide_false, Bool.true_and, Bool.and_true, Bool.false_and, Bool.and_false, Bool.true_or, Bool.or_true, Bool.false_or, Bool.or_false, Bool.not_true, Bool.not_false, eq_self])) (j_4 _ _ _ rfl hW)
            · refine xi_iconst hx hb dX12_areAtWork_70 ?_
              refine lv_goto (tgt := 75) hx hb dX12_areAtWork_71 (by decide) ?_
              exact xi_eq (z' := bI (alB (wkB S I) k.toNat && wkB S I k)) (bI_t (by simp only [wkB, moves, c_3, Int.not_le.mpr c_3, c_5, c_6, c_9, c_12, c_15, decide_true, decide_false, Bool.true_and, Bool.and_true, Bool.false_and, Bool.and_false, Bool.true_or, Bool.or_true, Bool.false_or, Bool.or_false, Bool.not_true, Bool.not_false, eq_self])) (j_4 _ _ _ rfl hW)
set_option maxHeartbeats 4000000 in
set_option maxRecDepth 100000 in
theorem c_M_settles {l : Launch} {D : va_G} {cy : Nat → ClassId} {B0 : Nat} {ix : Nat → Nat} {S : ST} {I : Int → Bool} {aM qM : Int → Int64} {tM : Int} {G : gF}  (ho : okS S) (hI : ∀ j : Int, 0 ≤ j → j < S.1 8 0 → I j = true → S.1 18 j ≠ 4) : gM l yX12_settles vX12_settles 2 47 D cy B0 [.ref (ix 100)] (mW cy ix S (mX I aM qM tM) G) (fun r g => r = some (.int (iI (cnB I (S.1 8 0).toNat))) ∧ g = mW cy ix (sSets S I (S.1 8 0).toNat) (mX I aM qM tM) G) 0 0 := by
  refine g_start (cc := cX12_settles) (maxL := 3) (ret := (some .int)) (by decide) rfl (Nat.le_of_ble_eq_true rfl) ?_
  intro p_ e_ s_ m_ be_ me_ co_ ls H locs K hr hlk hnm hK hW hl
  have hin : ∀ w ∈ wsX120, w ∈ vX12_settles := wsM_cls
  obtain ⟨hx, hb, hml, hown, hts⟩ := id K
  have hl : lv_has ls 3 [(0, .ref (ix 100))] := hl
  refine xi_iconst hx hb dX12_settles_0 ?_
  refine lv_istore_n (lv' := [(1, .int (iI (0))), (0, .ref (ix 100))]) hx hb dX12_settles_1 rfl hl (by decide) rfl (fun ls hl => ?_)
  refine xi_iconst hx hb dX12_settles_2 ?_
  refine lv_istore_n (lv' := [(2, .int (iI (0))), (1, .int (iI (0))), (0, .ref (ix 100))]) hx hb dX12_settles_3 rfl hl (by decide) rfl (fun ls hl => ?_)
  refine lp_w2 (Wg := fun (H : Heap) (locs : List Loc) (ls : Array Slot) => W p_ l e_ { frames := 2, cells := 0, slots := 0, locals := 47 } s_ m_ ([.ref (ix 100)] : List Value).toArray be_ me_ co_ H locs 0 0 (MQ be_ (gQ D B0 (fun (r : Option Value) (g : gF) => r = some (.int (iI (cnB I (S.1 8 0).toNat))) ∧ g = mW cy ix (sSets S I (S.1 8 0).toNat) (mX I aM qM tM) G)) ([.ref (ix 100)] : List Value).toArray s_ 0 0 (fun q : Nat => B0 ≤ q)) (F0 m_ 4 ls [])) (fun (k : Int) (Sk : ST) (H : Heap) (locs : List Loc) (ls : Array Slot) => ((0 ≤ k ∧ k ≤ S.1 8 0) ∧ Sk = sSets S I k.toNat) ∧ gW D B0 s_ (mW cy ix Sk (mX (I) (aM) (qM) (tM)) G) H locs ∧ lv_has ls 3 [(2, .int (iI (k))), (1, .int (iI (cnB I k.toNat))), (0, .ref (ix 100))]) (fun (k : Int) (Sk : ST) => (60 - k).toNat) (fun k Sk H locs ls hI ih_lp_1 => ?_) (0) (S) _ _ _ ⟨⟨⟨by omega, (wf_8 ho.1 0).1⟩, rfl⟩, hW, lv_sub hl [0, 1, 2] rfl⟩
  obtain ⟨hI_lp_1, hW, hl⟩ := hI
  obtain ⟨hk, hSk⟩ := hI_lp_1
  have h80 := wf_8 ho.1 0
  obtain ⟨hok, hfs, h18, hcn⟩ := sSets_inv (I := I) ho k.toNat (by omega) (fun j a b => hI j a (by omega))
  rw [← hSk] at hok hfs h18 hcn
  have hwk : wf Sk := hok.1
  have h8 : Sk.1 8 0 = S.1 8 0 := by rw [hfs 8 (by unfold cht; decide)]
  refine lv_iload_n hx hb dX12_settles_4 rfl (lv_at hl 0 rfl) ?_
  refine lv_aload_n hx hb dX12_settles_5 rfl (lv_at hl 2 rfl) ?_
  refine mr_get K hK hW hin 8 (by decide) lM_payments (v := .int (iI (Sk.1 8 (0)))) rfl dX12_settles_6 ?_
  have w_w_2 := wf_8 hwk 0
  refine xi_icmp_ge (tgt := 169) hx hb ⟨by omega, by omega⟩ ⟨by omega, by omega⟩ dX12_settles_9 (by decide) (fun c_3 => ?_) (fun c_3 => ?_)
  · refine lv_iload_n hx hb dX12_settles_169 rfl (lv_at hl 1 rfl) ?_
    exact g_iret hx hb hr hW ⟨by rw [show S.1 8 0 = k by omega], by rw [show S.1 8 0 = k by omega, ← hSk]⟩ dX12_settles_170 hlk
  · refine lv_aload_n hx hb dX12_settles_12 rfl (lv_at hl 2 rfl) ?_
    refine mr_get K hK hW hin 33 (by decide) lM_isIn (v := .ref (ix 133)) rfl dX12_settles_13 ?_
    refine lv_iload_n hx hb dX12_settles_16 rfl (lv_at hl 0 rfl) ?_
    refine mr_zald K hK hW 33 (by decide) rfl (n := 60) rfl rfl ⟨by omega, by omega⟩ (v := bI (I (k))) rfl dX12_settles_17 ?_
    refine xi_ifb_eq (tgt := 163) hx hb dX12_settles_18 (by decide) (fun c_4 => ?_) (fun c_4 => ?_)
    · have hl : lv_has ls 3 [(2, .int (iI (k))), (1, .int (iI (cnB I (k + 1).toNat))), (0, .ref (ix 100))] := by
        have hbe : (cnB I k.toNat) = (cnB I (k + 1).toNat) := by rw [show (k + 1).toNat = k.toNat + 1 by omega, cnB_s, show ((k.toNat : Nat) : Int) = k by omega, c_4]; simp [bI]
        rw [← hbe]; exact hl
      refine xi_iinc (lv' := [(2, .int (iI (k + 1))), (1, .int (iI (cnB I (k + 1).toNat))), (0, .ref (ix 100))]) hx hb dX12_settles_163 hl (k := 0) rfl (by decide) rfl (fun ls hl => ?_)
      refine lv_goto (tgt := 4) hx hb dX12_settles_166 (by decide) ?_
      exact ih_lp_1 (k + 1) (Sk) _ _ _ (by have := wf_8 ho.1 0; first | omega | (dsimp only; omega)) ⟨⟨⟨by omega, by omega⟩, by rw [show (k + 1).toNat = k.toNat + 1 by omega, sSets_s, show ((k.toNat : Nat) : Int) = k by omega, if_neg (by rw [c_4]; decide), hSk]⟩, hW, lv_sub hl [0, 1, 2] rfl⟩
    · have hkI : I k = true := c_4
      have h4 : Sk.1 18 k ≠ 4 := by rw [h18 k (by omega)]; exact hI k (by omega) (by omega) hkI
      have hcp := cNF_pos (by omega) (by omega) h4
      have hfin := hok.2.1
      have hent := hok.2.2.1
      refine lv_aload_n hx hb dX12_settles_21 rfl (lv_at hl 2 rfl) ?_
      refine mr_get K hK hW hin 18 (by decide) lM_state (v := .ref (ix 118)) rfl dX12_settles_22 ?_
      refine lv_iload_n hx hb dX12_settles_25 rfl (lv_at hl 0 rfl) ?_
      refine xi_iconst hx hb dX12_settles_26 ?_
      refine mr_iast K hK hW 18 (by decide) rfl (n := 60) rfl rfl ⟨by omega, by omega⟩ dX12_settles_27 (fun H locs hW => ?_)
      refine lv_aload_n hx hb dX12_settles_28 rfl (lv_at hl 2 rfl) ?_
      refine mr_get K hK hW hin 22 (by decide) lM_finalOn (v := .ref (ix 122)) rfl dX12_settles_29 ?_
      refine lv_iload_n hx hb dX12_settles_32 rfl (lv_at hl 0 rfl) ?_
      refine lv_aload_n hx hb dX12_settles_33 rfl (lv_at hl 2 rfl) ?_
      refine mr_get K hK hW hin 0 (by decide) lM_today (v := .int (iI (Sk.1 0 (0)))) rfl dX12_settles_34 ?_
      have w_w_5 := wf_0 hwk 0
      refine mr_iast K hK hW 22 (by decide) rfl (n := 60) rfl rfl ⟨by omega, by omega⟩ dX12_settles_37 (fun H locs hW => ?_)
      refine lv_aload_n hx hb dX12_settles_38 rfl (lv_at hl 2 rfl) ?_
      refine lv_aload_n hx hb dX12_settles_39 rfl (lv_at hl 2 rfl) ?_
      refine mr_get K hK hW hin 9 (by decide) lM_from (v := .ref (ix 109)) rfl dX12_settles_40 ?_
      refine lv_iload_n hx hb dX12_settles_43 rfl (lv_at hl 0 rfl) ?_
      refine mr_iald K hK hW 9 (by decide) rfl (n := 60) rfl rfl ⟨by omega, by omega⟩ (v := Sk.1 9 (k)) rfl dX12_settles_44 ?_
      have w_6 := wf_9 hwk (k)
      refine lv_aload_n hx hb dX12_settles_45 rfl (lv_at hl 2 rfl) ?_
      refine mr_get K hK hW hin 10 (by decide) lM_to (v := .ref (ix 110)) rfl dX12_settles_46 ?_
      refine lv_iload_n hx hb dX12_settles_49 rfl (lv_at hl 0 rfl) ?_
      refine mr_iald K hK hW 10 (by decide) rfl (n := 60) rfl rfl ⟨by omega, by omega⟩ (v := Sk.1 10 (k)) rfl dX12_settles_50 ?_
      have w_7 := wf_10 hwk (k)
      refine lv_aload_n hx hb dX12_settles_51 rfl (lv_at hl 2 rfl) ?_
      refine mr_get K hK hW hin 11 (by decide) lM_currency (v := .ref (ix 111)) rfl dX12_settles_52 ?_
      refine lv_iload_n hx hb dX12_settles_55 rfl (lv_at hl 0 rfl) ?_
      refine mr_iald K hK hW 11 (by decide) rfl (n := 60) rfl rfl ⟨by omega, by omega⟩ (v := Sk.1 11 (k)) rfl dX12_settles_56 ?_
      have w_8 := wf_11 hwk (k)
      refine lv_aload_n hx hb dX12_settles_57 rfl (lv_at hl 2 rfl) ?_
      refine mr_get K hK hW hin 12 (by decide) lM_amount (v := .ref (ix 112)) rfl dX12_settles_58 ?_
      refine lv_iload_n hx hb dX12_settles_61 rfl (lv_at hl 0 rfl) ?_
      refine mr_iald K hK hW 12 (by decide) rfl (n := 60) rfl rfl ⟨by omega, by omega⟩ (v := Sk.1 12 (k)) rfl dX12_settles_62 ?_
      have w_9 := wf_12 hwk (k)
      refine xi_i2l hx hb ⟨by omega, by omega⟩ dX12_settles_63 ?_
      refine lv_iload_n hx hb dX12_settles_64 rfl (lv_at hl 0 rfl) ?_
      refine g_callV (i := 0) (As := [.int (iI (Sk.1 9 (k))), .int (iI (Sk.1 10 (k))), .int (iI (Sk.1 11 (k))), .long (Int64.ofInt (Sk.1 12 (k))), .int (iI (k))]) (rest := []) K (c_M_books (Sk.1 9 (k)) (Sk.1 10 (k)) (Sk.1 11 (k)) (Int64.ofInt (Sk.1 12 (k))) (k) ⟨by omega, by omega⟩ ⟨by omega, by omega⟩ ⟨by omega, by omega⟩ ⟨by omega, by omega⟩ (wf_pI (f := 22) (wf_pI (f := 18) hwk (k) (4) (by simp only [rLo, rHi]; omega)) (k) (Sk.1 0 (0)) (by simp only [rLo, rHi]; omega))) (cwV 5 hts gM_X12_books rfl rfl rfl (by decide +kernel) ⟨Nat.le_of_ble_eq_true rfl, Nat.le_of_ble_eq_true rfl⟩) hK hW (mW_0 _ _ _ _ _) rfl rfl hl.1 rfl (Nat.le_of_ble_eq_true rfl) dX12_settles_65 ⟨Nat.le_refl _, Nat.le_refl _⟩ (fun v_ f_ H locs hp hW => ?_)
      obtain ⟨hpv, hpe⟩ := hp
      rw [hpe] at hW
      subst hpv
      refine lv_aload_n hx hb dX12_settles_68 rfl (lv_at hl 2 rfl) ?_
      refine mr_get K hK hW hin 4 (by decide) lM_paid (v := .ref (ix 104)) rfl dX12_settles_69 ?_
      refine lv_aload_n hx hb dX12_settles_72 rfl (lv_at hl 2 rfl) ?_
      refine mr_get K hK hW hin 9 (by decide) lM_from (v := .ref (ix 109)) rfl dX12_settles_73 ?_
      refine lv_iload_n hx hb dX12_settles_76 rfl (lv_at hl 0 rfl) ?_
      refine mr_iald K hK hW 9 (by decide) rfl (n := 60) rfl rfl ⟨by omega, by omega⟩ (v := Sk.1 9 (k)) rfl dX12_settles_77 ?_
      have w_10 := wf_9 hwk (k)
      refine lv_aload_n hx hb dX12_settles_78 rfl (lv_at hl 2 rfl) ?_
      refine mr_get K hK hW hin 10 (by decide) lM_to (v := .ref (ix 110)) rfl dX12_settles_79 ?_
      refine lv_iload_n hx hb dX12_settles_82 rfl (lv_at hl 0 rfl) ?_
      refine mr_iald K hK hW 10 (by decide) rfl (n := 60) rfl rfl ⟨by omega, by omega⟩ (v := Sk.1 10 (k)) rfl dX12_settles_83 ?_
      have w_11 := wf_10 hwk (k)
      refine lv_aload_n hx hb dX12_settles_84 rfl (lv_at hl 2 rfl) ?_
      refine mr_get K hK hW hin 11 (by decide) lM_currency (v := .ref (ix 111)) rfl dX12_settles_85 ?_
      refine lv_iload_n hx hb dX12_settles_88 rfl (lv_at hl 0 rfl) ?_
      refine mr_iald K hK hW 11 (by decide) rfl (n := 60) rfl rfl ⟨by omega, by omega⟩ (v := Sk.1 11 (k)) rfl dX12_settles_89 ?_
      have w_12 := wf_11 hwk (k)
      refine g_callS (As := [.int (iI (Sk.1 9 (k))), .int (iI (Sk.1 10 (k))), .int (iI (Sk.1 11 (k)))]) (rest := [.ref (ix 104)]) K (c_M_pair (Sk.1 9 (k)) (Sk.1 10 (k)) (Sk.1 11 (k))) (va_cwS 3 hts gM_X12_pair rfl rfl rfl (by decide +kernel) ⟨Nat.le_of_ble_eq_true rfl, Nat.le_of_ble_eq_true rfl⟩) hK hW rfl hl.1 rfl (Nat.le_of_ble_eq_true rfl) dX12_settles_90 ⟨Nat.le_refl _, Nat.le_refl _⟩ (fun v_ f_ H locs hp hW => ?_)
      obtain ⟨hpv, hpe⟩ := hp
      rw [hpe] at hW
      subst hpv
      refine lv_dup2_11 hx hb dX12_settles_93 rfl rfl ?_
      refine mr_lald K hK hW 4 (by decide) rfl (n := 108) rfl rfl ⟨by omega, by omega⟩ (v := (sBook (pI (pI Sk 18 (k) (4)) 22 (k) (Sk.1 0 (0))) (Sk.1 9 (k)) (Sk.1 10 (k)) (Sk.1 11 (k)) (Int64.ofInt (Sk.1 12 (k))) (k)).2 4 (3 * (6 * (Sk.1 9 (k)) + (Sk.1 10 (k))) + (Sk.1 11 (k)))) rfl dX12_settles_94 ?_
      refine lv_aload_n hx hb dX12_settles_95 rfl (lv_at hl 2 rfl) ?_
      refine mr_get K hK hW hin 12 (by decide) lM_amount (v := .ref (ix 112)) rfl dX12_settles_96 ?_
      refine lv_iload_n hx hb dX12_settles_99 rfl (lv_at hl 0 rfl) ?_
      refine mr_iald K hK hW 12 (by decide) rfl (n := 60) rfl rfl ⟨by omega, by omega⟩ (v := Sk.1 12 (k)) rfl dX12_settles_100 ?_
      have w_13 := wf_12 hwk (k)
      refine xi_i2l hx hb ⟨by omega, by omega⟩ dX12_settles_101 ?_
      refine lv_ladd hx hb dX12_settles_102 ?_
      refine mr_last K hK hW 4 (by decide) rfl (by decide) (n := 108) rfl rfl ⟨by omega, by omega⟩ dX12_settles_103 (fun H locs hW => ?_)
      refine lv_aload_n hx hb dX12_settles_104 rfl (lv_at hl 2 rfl) ?_
      refine mr_get K hK hW hin 4 (by decide) lM_paid (v := .ref (ix 104)) rfl dX12_settles_105 ?_
      refine lv_aload_n hx hb dX12_settles_108 rfl (lv_at hl 2 rfl) ?_
      refine mr_get K hK hW hin 10 (by decide) lM_to (v := .ref (ix 110)) rfl dX12_settles_109 ?_
      refine lv_iload_n hx hb dX12_settles_112 rfl (lv_at hl 0 rfl) ?_
      refine mr_iald K hK hW 10 (by decide) rfl (n := 60) rfl rfl ⟨by omega, by omega⟩ (v := Sk.1 10 (k)) rfl dX12_settles_113 ?_
      have w_14 := wf_10 hwk (k)
      refine lv_aload_n hx hb dX12_settles_114 rfl (lv_at hl 2 rfl) ?_
      refine mr_get K hK hW hin 9 (by decide) lM_from (v := .ref (ix 109)) rfl dX12_settles_115 ?_
      refine lv_iload_n hx hb dX12_settles_118 rfl (lv_at hl 0 rfl) ?_
      refine mr_iald K hK hW 9 (by decide) rfl (n := 60) rfl rfl ⟨by omega, by omega⟩ (v := Sk.1 9 (k)) rfl dX12_settles_119 ?_
      have w_15 := wf_9 hwk (k)
      refine lv_aload_n hx hb dX12_settles_120 rfl (lv_at hl 2 rfl) ?_
      refine mr_get K hK hW hin 11 (by decide) lM_currency (v := .ref (ix 111)) rfl dX12_settles_121 ?_
      refine lv_iload_n hx hb dX12_settles_124 rfl (lv_at hl 0 rfl) ?_
      refine mr_iald K hK hW 11 (by decide) rfl (n := 60) rfl rfl ⟨by omega, by omega⟩ (v := Sk.1 11 (k)) rfl dX12_settles_125 ?_
      have w_16 := wf_11 hwk (k)
      refine g_callS (As := [.int (iI (Sk.1 10 (k))), .int (iI (Sk.1 9 (k))), .int (iI (Sk.1 11 (k)))]) (rest := [.ref (ix 104)]) K (c_M_pair (Sk.1 10 (k)) (Sk.1 9 (k)) (Sk.1 11 (k))) (va_cwS 3 hts gM_X12_pair rfl rfl rfl (by decide +kernel) ⟨Nat.le_of_ble_eq_true rfl, Nat.le_of_ble_eq_true rfl⟩) hK hW rfl hl.1 rfl (Nat.le_of_ble_eq_true rfl) dX12_settles_126 ⟨Nat.le_refl _, Nat.le_refl _⟩ (fun v_ f_ H locs hp hW => ?_)
      obtain ⟨hpv, hpe⟩ := hp
      rw [hpe] at hW
      subst hpv
      refine lv_dup2_11 hx hb dX12_settles_129 rfl rfl ?_
      refine mr_lald K hK hW 4 (by decide) rfl (n := 108) rfl rfl ⟨by omega, by omega⟩ (v := (pL (sBook (pI (pI Sk 18 (k) (4)) 22 (k) (Sk.1 0 (0))) (Sk.1 9 (k)) (Sk.1 10 (k)) (Sk.1 11 (k)) (Int64.ofInt (Sk.1 12 (k))) (k)) 4 (3 * (6 * (Sk.1 9 (k)) + (Sk.1 10 (k))) + (Sk.1 11 (k))) (((sBook (pI (pI Sk 18 (k) (4)) 22 (k) (Sk.1 0 (0))) (Sk.1 9 (k)) (Sk.1 10 (k)) (Sk.1 11 (k)) (Int64.ofInt (Sk.1 12 (k))) (k)).2 4 (3 * (6 * (Sk.1 9 (k)) + (Sk.1 10 (k))) + (Sk.1 11 (k)))) + (Int64.ofInt (Sk.1 12 (k))))).2 4 (3 * (6 * (Sk.1 10 (k)) + (Sk.1 9 (k))) + (Sk.1 11 (k)))) rfl dX12_settles_130 ?_
      refine lv_aload_n hx hb dX12_settles_131 rfl (lv_at hl 2 rfl) ?_
      refine mr_get K hK hW hin 12 (by decide) lM_amount (v := .ref (ix 112)) rfl dX12_settles_132 ?_
      refine lv_iload_n hx hb dX12_settles_135 rfl (lv_at hl 0 rfl) ?_
      refine mr_iald K hK hW 12 (by decide) rfl (n := 60) rfl rfl ⟨by omega, by omega⟩ (v := Sk.1 12 (k)) rfl dX12_settles_136 ?_
      have w_17 := wf_12 hwk (k)
      refine xi_i2l hx hb ⟨by omega, by omega⟩ dX12_settles_137 ?_
      refine lv_lsub hx hb dX12_settles_138 ?_
      refine mr_last K hK hW 4 (by decide) rfl (by decide) (n := 108) rfl rfl ⟨by omega, by omega⟩ dX12_settles_139 (fun H locs hW => ?_)
      refine lv_aload_n hx hb dX12_settles_140 rfl (lv_at hl 2 rfl) ?_
      refine mr_get K hK hW hin 28 (by decide) lM_finished (v := .ref (ix 128)) rfl dX12_settles_141 ?_
      refine lv_aload_n hx hb dX12_settles_144 rfl (lv_at hl 2 rfl) ?_
      refine mr_get K hK hW hin 27 (by decide) lM_finals (v := .int (iI (Sk.1 27 (0)))) rfl dX12_settles_145 ?_
      have w_w_18 := wf_27 hwk 0
      refine lv_iload_n hx hb dX12_settles_148 rfl (lv_at hl 0 rfl) ?_
      refine mr_iast K hK hW 28 (by decide) rfl (n := 60) rfl rfl ⟨by omega, by omega⟩ dX12_settles_149 (fun H locs hW => ?_)
      refine lv_aload_n hx hb dX12_settles_150 rfl (lv_at hl 2 rfl) ?_
      refine lv_dup hx hb dX12_settles_151 rfl ?_
      refine mr_get K hK hW hin 27 (by decide) lM_finals (v := .int (iI (Sk.1 27 (0)))) rfl dX12_settles_152 ?_
      have w_w_19 := wf_27 hwk 0
      refine xi_iconst hx hb dX12_settles_155 ?_
      refine xi_iadd hx hb dX12_settles_156 ?_
      refine mr_put K hK hW hin 27 (by decide) lM_finals rfl rfl (S' := (pI (pI (pL (pL (sBook (pI (pI Sk 18 (k) (4)) 22 (k) (Sk.1 0 (0))) (Sk.1 9 (k)) (Sk.1 10 (k)) (Sk.1 11 (k)) (Int64.ofInt (Sk.1 12 (k))) (k)) 4 (3 * (6 * (Sk.1 9 (k)) + (Sk.1 10 (k))) + (Sk.1 11 (k))) (((sBook (pI (pI Sk 18 (k) (4)) 22 (k) (Sk.1 0 (0))) (Sk.1 9 (k)) (Sk.1 10 (k)) (Sk.1 11 (k)) (Int64.ofInt (Sk.1 12 (k))) (k)).2 4 (3 * (6 * (Sk.1 9 (k)) + (Sk.1 10 (k))) + (Sk.1 11 (k)))) + (Int64.ofInt (Sk.1 12 (k))))) 4 (3 * (6 * (Sk.1 10 (k)) + (Sk.1 9 (k))) + (Sk.1 11 (k))) (((pL (sBook (pI (pI Sk 18 (k) (4)) 22 (k) (Sk.1 0 (0))) (Sk.1 9 (k)) (Sk.1 10 (k)) (Sk.1 11 (k)) (Int64.ofInt (Sk.1 12 (k))) (k)) 4 (3 * (6 * (Sk.1 9 (k)) + (Sk.1 10 (k))) + (Sk.1 11 (k))) (((sBook (pI (pI Sk 18 (k) (4)) 22 (k) (Sk.1 0 (0))) (Sk.1 9 (k)) (Sk.1 10 (k)) (Sk.1 11 (k)) (Int64.ofInt (Sk.1 12 (k))) (k)).2 4 (3 * (6 * (Sk.1 9 (k)) + (Sk.1 10 (k))) + (Sk.1 11 (k)))) + (Int64.ofInt (Sk.1 12 (k))))).2 4 (3 * (6 * (Sk.1 10 (k)) + (Sk.1 9 (k))) + (Sk.1 11 (k)))) - (Int64.ofInt (Sk.1 12 (k))))) 28 (Sk.1 27 (0)) (k)) 27 (0) ((Sk.1 27 (0)) + 1))) (X' := (mX (I) (aM) (qM) (tM))) rfl (fun i hi => mC_sc rfl hi (by decide)) dX12_settles_157 (fun H locs hW => ?_)
      refine xi_iinc (lv' := [(1, .int (iI (cnB I k.toNat + 1))), (2, .int (iI (k))), (0, .ref (ix 100))]) hx hb dX12_settles_160 hl (k := 1) rfl (by decide) rfl (fun ls hl => ?_)
      have hl : lv_has ls 3 [(1, .int (iI (cnB I (k + 1).toNat))), (2, .int (iI (k))), (0, .ref (ix 100))] := by
        have hbe : (cnB I k.toNat + 1) = (cnB I (k + 1).toNat) := by rw [show (k + 1).toNat = k.toNat + 1 by omega, cnB_s, show ((k.toNat : Nat) : Int) = k by omega, c_4]; simp [bI]
        rw [← hbe]; exact hl
      refine xi_iinc (lv' := [(2, .int (iI (k + 1))), (1, .int (iI (cnB I (k + 1).toNat))), (0, .ref (ix 100))]) hx hb dX12_settles_163 hl (k := 1) rfl (by decide) rfl (fun ls hl => ?_)
      refine lv_goto (tgt := 4) hx hb dX12_settles_166 (by decide) ?_
      have hW : gW D B0 s_ (mW cy ix (sFin Sk k) (mX I aM qM tM) G) H locs := by rw [mW_fin]; exact hW
      exact ih_lp_1 (k + 1) (sFin Sk k) _ _ _ (by have := wf_8 ho.1 0; first | omega | (dsimp only; omega)) ⟨⟨⟨by omega, by omega⟩, by rw [show (k + 1).toNat = k.toNat + 1 by omega, sSets_s, show ((k.toNat : Nat) : Int) = k by omega, if_pos (by rw [c_4]), hSk]⟩, hW, lv_sub hl [0, 1, 2] rfl⟩
set_option maxHeartbeats 4000000 in
set_option maxRecDepth 100000 in
theorem c_M_queued {l : Launch} {D : va_G} {cy : Nat → ClassId} {B0 : Nat} {ix : Nat → Nat} {S : ST} {I : Int → Bool} {aM qM : Int → Int64} {tM : Int} {G : gF} (b : Int) (c : Int) (p : Int) (hb0 : 0 ≤ b ∧ b ≤ 5) (hc : 0 ≤ c ∧ c ≤ 2) (hp0 : 0 ≤ p ∧ p ≤ 2147483647) (hwf : wf S) : gM l yX12_queued vX12_queued 0 0 D cy B0 [.ref (ix 100), .int (iI b), .int (iI c), .int (iI p)] (mW cy ix S (mX I aM qM tM) G) (fun r g => r = some (.int (iI (qAt S b c p))) ∧ g = mW cy ix S (mX I aM qM tM) G) 0 0 := by
  refine g_start (cc := cX12_queued) (maxL := 7) (ret := (some .int)) (by decide) rfl (Nat.le_of_ble_eq_true rfl) ?_
  intro p_ e_ s_ m_ be_ me_ co_ ls H locs K hr hlk hnm hK hW hl
  have hin : ∀ w ∈ wsX120, w ∈ vX12_queued := wsM_cls
  obtain ⟨hx, hb, hml, hown, hts⟩ := id K
  have hl : lv_has ls 7 [(0, .ref (ix 100)), (1, .int (iI (b))), (2, .int (iI (c))), (3, .int (iI (p)))] := hl
  refine lv_iload_n hx hb dX12_queued_0 rfl (lv_at hl 3 rfl) ?_
  refine lv_istore (lv' := [(4, .int (iI (p))), (0, .ref (ix 100)), (1, .int (iI (b))), (2, .int (iI (c))), (3, .int (iI (p)))]) hx hb dX12_queued_1 hl (by decide) rfl (fun ls hl => ?_)
  refine xi_iconst hx hb dX12_queued_3 ?_
  refine lv_istore (lv' := [(5, .int (iI (2))), (4, .int (iI (p))), (0, .ref (ix 100)), (1, .int (iI (b))), (2, .int (iI (c))), (3, .int (iI (p)))]) hx hb dX12_queued_4 hl (by decide) rfl (fun ls hl => ?_)
  refine lp_w2 (Wg := fun (H : Heap) (locs : List Loc) (ls : Array Slot) => W p_ l e_ { frames := 0, cells := 0, slots := 0, locals := 0 } s_ m_ ([.ref (ix 100), .int (iI b), .int (iI c), .int (iI p)] : List Value).toArray be_ me_ co_ H locs 0 0 (MQ be_ (gQ D B0 (fun (r : Option Value) (g : gF) => r = some (.int (iI (qAt S b c p))) ∧ g = mW cy ix S (mX I aM qM tM) G)) ([.ref (ix 100), .int (iI b), .int (iI c), .int (iI p)] : List Value).toArray s_ 0 0 (fun q : Nat => B0 ≤ q)) (F0 m_ 6 ls [])) (fun (h : Int) (left : Int) (H : Heap) (locs : List Loc) (ls : Array Slot) => ((-1 ≤ h ∧ h ≤ 2) ∧ 0 ≤ left ∧ left = p - (qP S b c h 0).length) ∧ gW D B0 s_ (mW cy ix S (mX (I) (aM) (qM) (tM)) G) H locs ∧ lv_has ls 7 [(5, .int (iI (h))), (4, .int (iI (left))), (3, .int (iI (p))), (2, .int (iI (c))), (1, .int (iI (b))), (0, .ref (ix 100))]) (fun (h : Int) (left : Int) => (h + 1).toNat) (fun h left H locs ls hI ih_lp_1 => ?_) (2) (p) _ _ _ ⟨⟨⟨by omega, by omega⟩, by omega, by rw [qP_0]; simp⟩, hW, lv_sub hl [0, 1, 5, 4, 3, 2] rfl⟩
  obtain ⟨hI_lp_1, hW, hl⟩ := hI
  obtain ⟨hh, hl0, hl1⟩ := hI_lp_1
  refine lv_iload hx hb dX12_queued_6 (lv_at hl 0 rfl) ?_
  refine xi_if_lt (tgt := 91) hx hb ⟨by omega, by omega⟩ dX12_queued_8 (by decide) (fun c_2 => ?_) (fun c_2 => ?_)
  · refine xi_iconst hx hb dX12_queued_91 ?_
    exact g_iret hx hb hr hW ⟨by rw [← qP_miss (p := p) (by rw [← qP_end S b c 0, show (-1 : Int) = h by omega]; omega)], rfl⟩ dX12_queued_92 hlk
  · refine xi_iconst hx hb dX12_queued_11 ?_
    refine lv_istore (lv' := [(6, .int (iI (0))), (5, .int (iI (h))), (4, .int (iI (left))), (3, .int (iI (p))), (2, .int (iI (c))), (1, .int (iI (b))), (0, .ref (ix 100))]) hx hb dX12_queued_12 hl (by decide) rfl (fun ls hl => ?_)
    refine lp_w2 (Wg := fun (H : Heap) (locs : List Loc) (ls : Array Slot) => W p_ l e_ { frames := 0, cells := 0, slots := 0, locals := 0 } s_ m_ ([.ref (ix 100), .int (iI b), .int (iI c), .int (iI p)] : List Value).toArray be_ me_ co_ H locs 0 0 (MQ be_ (gQ D B0 (fun (r : Option Value) (g : gF) => r = some (.int (iI (qAt S b c p))) ∧ g = mW cy ix S (mX I aM qM tM) G)) ([.ref (ix 100), .int (iI b), .int (iI c), .int (iI p)] : List Value).toArray s_ 0 0 (fun q : Nat => B0 ≤ q)) (F0 m_ 14 ls [])) (fun (k : Int) (le : Int) (H : Heap) (locs : List Loc) (ls : Array Slot) => ((0 ≤ k ∧ k ≤ S.1 8 0) ∧ 0 ≤ le ∧ le = p - (qP S b c h k.toNat).length) ∧ gW D B0 s_ (mW cy ix S (mX (I) (aM) (qM) (tM)) G) H locs ∧ lv_has ls 7 [(6, .int (iI (k))), (5, .int (iI (h))), (4, .int (iI (le))), (3, .int (iI (p))), (2, .int (iI (c))), (1, .int (iI (b))), (0, .ref (ix 100))]) (fun (k : Int) (le : Int) => (60 - k).toNat) (fun k le H locs ls hI ih_lp_3 => ?_) (0) (left) _ _ _ ⟨⟨⟨by omega, (wf_8 hwf 0).1⟩, hl0, hl1⟩, hW, lv_sub hl [0, 1, 2, 3, 4, 5, 6] rfl⟩
    obtain ⟨hI_lp_3, hW, hl⟩ := hI
    obtain ⟨hk, hl2, hl3⟩ := hI_lp_3
    refine lv_iload hx hb dX12_queued_14 (lv_at hl 0 rfl) ?_
    refine lv_aload_n hx hb dX12_queued_16 rfl (lv_at hl 6 rfl) ?_
    refine mr_get K hK hW hin 8 (by decide) lM_payments (v := .int (iI (S.1 8 (0)))) rfl dX12_queued_17 ?_
    have w_w_4 := wf_8 hwf 0
    refine xi_icmp_ge (tgt := 85) hx hb ⟨by omega, by omega⟩ ⟨by omega, by omega⟩ dX12_queued_20 (by decide) (fun c_5 => ?_) (fun c_5 => ?_)
    · refine xi_iinc (lv' := [(5, .int (iI (h + (-1)))), (6, .int (iI (k))), (4, .int (iI (le))), (3, .int (iI (p))), (2, .int (iI (c))), (1, .int (iI (b))), (0, .ref (ix 100))]) hx hb dX12_queued_85 hl (k := 1) rfl (by decide) rfl (fun ls hl => ?_)
      refine lv_goto (tgt := 6) hx hb dX12_queued_88 (by decide) ?_
      exact ih_lp_1 (h + (-1)) (le) _ _ _ (by first | omega | (dsimp only; omega)) ⟨⟨⟨by omega, by omega⟩, hl2, by rw [hl3, show k = S.1 8 0 by omega, qP_n _ _ _ _ ⟨by omega, by omega⟩]; rfl⟩, hW, lv_sub hl [0, 2, 3, 4, 5, 6] rfl⟩
    · refine lv_aload_n hx hb dX12_queued_23 rfl (lv_at hl 6 rfl) ?_
      refine mr_get K hK hW hin 18 (by decide) lM_state (v := .ref (ix 118)) rfl dX12_queued_24 ?_
      refine lv_iload hx hb dX12_queued_27 (lv_at hl 0 rfl) ?_
      refine mr_iald K hK hW 18 (by decide) rfl (n := 60) rfl rfl ⟨by omega, by omega⟩ (v := S.1 18 (k)) rfl dX12_queued_29 ?_
      have w_6 := wf_18 hwf (k)
      refine xi_iconst hx hb dX12_queued_30 ?_
      refine xi_icmp_ne (tgt := 79) hx hb ⟨by omega, by omega⟩ ⟨by omega, by omega⟩ dX12_queued_31 (by decide) (fun c_7 => ?_) (fun c_7 => ?_)
      · refine xi_iinc (lv' := [(6, .int (iI (k + 1))), (5, .int (iI (h))), (4, .int (iI (le))), (3, .int (iI (p))), (2, .int (iI (c))), (1, .int (iI (b))), (0, .ref (ix 100))]) hx hb dX12_queued_79 hl (k := 0) rfl (by decide) rfl (fun ls hl => ?_)
        refine lv_goto (tgt := 14) hx hb dX12_queued_82 (by decide) ?_
        exact ih_lp_3 (k + 1) (le) _ _ _ (by have := wf_8 hwf 0; first | omega | (dsimp only; omega)) ⟨⟨⟨by omega, by omega⟩, by omega, by rw [show (k + 1).toNat = k.toNat + 1 by omega, qP_s _ _ _ _ _ (by omega), show ((k.toNat : Nat) : Int) = k by omega, (show isQ S b c h k = false by simp only [isQ, c_7, decide_true, decide_false, Bool.true_and, Bool.and_true, Bool.false_and, Bool.and_false, Bool.true_or, Bool.or_true, Bool.false_or, Bool.or_false, Bool.not_true, Bool.not_false, eq_self])]; simp; omega⟩, hW, lv_sub hl [0, 1, 2, 3, 4, 5, 6] rfl⟩
      · refine lv_aload_n hx hb dX12_queued_34 rfl (lv_at hl 6 rfl) ?_
        refine mr_get K hK hW hin 9 (by decide) lM_from (v := .ref (ix 109)) rfl dX12_queued_35 ?_
        refine lv_iload hx hb dX12_queued_38 (lv_at hl 0 rfl) ?_
        refine mr_iald K hK hW 9 (by decide) rfl (n := 60) rfl rfl ⟨by omega, by omega⟩ (v := S.1 9 (k)) rfl dX12_queued_40 ?_
        have w_8 := wf_9 hwf (k)
        refine lv_iload_n hx hb dX12_queued_41 rfl (lv_at hl 5 rfl) ?_
        refine xi_icmp_ne (tgt := 79) hx hb ⟨by omega, by omega⟩ ⟨by omega, by omega⟩ dX12_queued_42 (by decide) (fun c_9 => ?_) (fun c_9 => ?_)
        · refine xi_iinc (lv' := [(6, .int (iI (k + 1))), (5, .int (iI (h))), (4, .int (iI (le))), (3, .int (iI (p))), (2, .int (iI (c))), (1, .int (iI (b))), (0, .ref (ix 100))]) hx hb dX12_queued_79 hl (k := 0) rfl (by decide) rfl (fun ls hl => ?_)
          refine lv_goto (tgt := 14) hx hb dX12_queued_82 (by decide) ?_
          exact ih_lp_3 (k + 1) (le) _ _ _ (by have := wf_8 hwf 0; first | omega | (dsimp only; omega)) ⟨⟨⟨by omega, by omega⟩, by omega, by rw [show (k + 1).toNat = k.toNat + 1 by omega, qP_s _ _ _ _ _ (by omega), show ((k.toNat : Nat) : Int) = k by omega, (show isQ S b c h k = false by simp only [isQ, c_7, c_9, decide_true, decide_false, Bool.true_and, Bool.and_true, Bool.false_and, Bool.and_false, Bool.true_or, Bool.or_true, Bool.false_or, Bool.or_false, Bool.not_true, Bool.not_false, eq_self])]; simp; omega⟩, hW, lv_sub hl [0, 1, 2, 3, 4, 5, 6] rfl⟩
        · refine lv_aload_n hx hb dX12_queued_45 rfl (lv_at hl 6 rfl) ?_
          refine mr_get K hK hW hin 11 (by decide) lM_currency (v := .ref (ix 111)) rfl dX12_queued_46 ?_
          refine lv_iload hx hb dX12_queued_49 (lv_at hl 0 rfl) ?_
          refine mr_iald K hK hW 11 (by decide) rfl (n := 60) rfl rfl ⟨by omega, by omega⟩ (v := S.1 11 (k)) rfl dX12_queued_51 ?_
          have w_10 := wf_11 hwf (k)
          refine lv_iload_n hx hb dX12_queued_52 rfl (lv_at hl 4 rfl) ?_
          refine xi_icmp_ne (tgt := 79) hx hb ⟨by omega, by omega⟩ ⟨by omega, by omega⟩ dX12_queued_53 (by decide) (fun c_11 => ?_) (fun c_11 => ?_)
          · refine xi_iinc (lv' := [(6, .int (iI (k + 1))), (5, .int (iI (h))), (4, .int (iI (le))), (3, .int (iI (p))), (2, .int (iI (c))), (1, .int (iI (b))), (0, .ref (ix 100))]) hx hb dX12_queued_79 hl (k := 0) rfl (by decide) rfl (fun ls hl => ?_)
            refine lv_goto (tgt := 14) hx hb dX12_queued_82 (by decide) ?_
            exact ih_lp_3 (k + 1) (le) _ _ _ (by have := wf_8 hwf 0; first | omega | (dsimp only; omega)) ⟨⟨⟨by omega, by omega⟩, by omega, by rw [show (k + 1).toNat = k.toNat + 1 by omega, qP_s _ _ _ _ _ (by omega), show ((k.toNat : Nat) : Int) = k by omega, (show isQ S b c h k = false by simp only [isQ, c_7, c_9, c_11, decide_true, decide_false, Bool.true_and, Bool.and_true, Bool.false_and, Bool.and_false, Bool.true_or, Bool.or_true, Bool.false_or, Bool.or_false, Bool.not_true, Bool.not_false, eq_self])]; simp; omega⟩, hW, lv_sub hl [0, 1, 2, 3, 4, 5, 6] rfl⟩
          · refine lv_aload_n hx hb dX12_queued_56 rfl (lv_at hl 6 rfl) ?_
            refine mr_get K hK hW hin 14 (by decide) lM_rank (v := .ref (ix 114)) rfl dX12_queued_57 ?_
            refine lv_iload hx hb dX12_queued_60 (lv_at hl 0 rfl) ?_
            refine mr_iald K hK hW 14 (by decide) rfl (n := 60) rfl rfl ⟨by omega, by omega⟩ (v := S.1 14 (k)) rfl dX12_queued_62 ?_
            have w_12 := wf_14 hwf (k)
            refine lv_iload hx hb dX12_queued_63 (lv_at hl 1 rfl) ?_
            refine xi_icmp_ne (tgt := 79) hx hb ⟨by omega, by omega⟩ ⟨by omega, by omega⟩ dX12_queued_65 (by decide) (fun c_13 => ?_) (fun c_13 => ?_)
            · refine xi_iinc (lv' := [(6, .int (iI (k + 1))), (5, .int (iI (h))), (4, .int (iI (le))), (3, .int (iI (p))), (2, .int (iI (c))), (1, .int (iI (b))), (0, .ref (ix 100))]) hx hb dX12_queued_79 hl (k := 0) rfl (by decide) rfl (fun ls hl => ?_)
              refine lv_goto (tgt := 14) hx hb dX12_queued_82 (by decide) ?_
              exact ih_lp_3 (k + 1) (le) _ _ _ (by have := wf_8 hwf 0; first | omega | (dsimp only; omega)) ⟨⟨⟨by omega, by omega⟩, by omega, by rw [show (k + 1).toNat = k.toNat + 1 by omega, qP_s _ _ _ _ _ (by omega), show ((k.toNat : Nat) : Int) = k by omega, (show isQ S b c h k = false by simp only [isQ, c_7, c_9, c_11, c_13, decide_true, decide_false, Bool.true_and, Bool.and_true, Bool.false_and, Bool.and_false, Bool.true_or, Bool.or_true, Bool.false_or, Bool.or_false, Bool.not_true, Bool.not_false, eq_self])]; simp; omega⟩, hW, lv_sub hl [0, 1, 2, 3, 4, 5, 6] rfl⟩
            · refine lv_iload hx hb dX12_queued_68 (lv_at hl 2 rfl) ?_
              refine xi_if_ne (tgt := 76) hx hb ⟨by omega, by omega⟩ dX12_queued_70 (by decide) (fun c_14 => ?_) (fun c_14 => ?_)
              · refine xi_iinc (lv' := [(4, .int (iI (le + (-1)))), (6, .int (iI (k))), (5, .int (iI (h))), (3, .int (iI (p))), (2, .int (iI (c))), (1, .int (iI (b))), (0, .ref (ix 100))]) hx hb dX12_queued_76 hl (k := 2) rfl (by decide) rfl (fun ls hl => ?_)
                refine xi_iinc (lv' := [(6, .int (iI (k + 1))), (4, .int (iI (le + (-1)))), (5, .int (iI (h))), (3, .int (iI (p))), (2, .int (iI (c))), (1, .int (iI (b))), (0, .ref (ix 100))]) hx hb dX12_queued_79 hl (k := 1) rfl (by decide) rfl (fun ls hl => ?_)
                refine lv_goto (tgt := 14) hx hb dX12_queued_82 (by decide) ?_
                exact ih_lp_3 (k + 1) (le + (-1)) _ _ _ (by have := wf_8 hwf 0; first | omega | (dsimp only; omega)) ⟨⟨⟨by omega, by omega⟩, by omega, by rw [show (k + 1).toNat = k.toNat + 1 by omega, qP_s _ _ _ _ _ (by omega), show ((k.toNat : Nat) : Int) = k by omega, (show isQ S b c h k = true by simp only [isQ, c_7, c_9, c_11, c_13, decide_true, decide_false, Bool.true_and, Bool.and_true, Bool.false_and, Bool.and_false, Bool.true_or, Bool.or_true, Bool.false_or, Bool.or_false, Bool.not_true, Bool.not_false, eq_self])]; simp; omega⟩, hW, lv_sub hl [0, 2, 1, 3, 4, 5, 6] rfl⟩
              · refine lv_iload hx hb dX12_queued_73 (lv_at hl 0 rfl) ?_
                exact g_iret hx hb hr hW ⟨by rw [← qP_hit (p := p) ⟨by omega, by omega⟩ ⟨by omega, by omega⟩ (show isQ S b c h k = true by simp only [isQ, c_7, c_9, c_11, c_13, decide_true, decide_false, Bool.true_and, Bool.and_true, Bool.false_and, Bool.and_false, Bool.true_or, Bool.or_true, Bool.false_or, Bool.or_false, Bool.not_true, Bool.not_false, eq_self]) (by omega)], rfl⟩ dX12_queued_75 hlk
set_option maxHeartbeats 4000000 in
set_option maxRecDepth 100000 in
theorem c_M_last {l : Launch} {D : va_G} {cy : Nat → ClassId} {B0 : Nat} {ix : Nat → Nat} {S : ST} {I : Int → Bool} {aM qM : Int → Int64} {tM : Int} {G : gF} (b : Int) (u : Int) (q : Bool) (hb0 : 0 ≤ b ∧ b ≤ 5) (hu : -1 ≤ u ∧ u ≤ 5) (hwf : wf S) : gM l yX12_last vX12_last 0 0 D cy B0 [.ref (ix 100), .int (iI b), .int (iI u), .int (iI (bI q))] (mW cy ix S (mX I aM qM tM) G) (fun r g => r = some (.int (iI (laS S I b u q (S.1 8 0).toNat))) ∧ g = mW cy ix S (mX I aM qM tM) G) 0 0 := by
  refine g_start (cc := cX12_last) (maxL := 7) (ret := (some .int)) (by decide) rfl (Nat.le_of_ble_eq_true rfl) ?_
  intro p_ e_ s_ m_ be_ me_ co_ ls H locs K hr hlk hnm hK hW hl
  have hin : ∀ w ∈ wsX120, w ∈ vX12_last := wsM_cls
  obtain ⟨hx, hb, hml, hown, hts⟩ := id K
  have hl : lv_has ls 7 [(0, .ref (ix 100)), (1, .int (iI (b))), (2, .int (iI (u))), (3, .int (iI (bI (q))))] := hl
  refine xi_iconst hx hb dX12_last_0 ?_
  refine lv_istore (lv' := [(4, .int (iI ((-1)))), (0, .ref (ix 100)), (1, .int (iI (b))), (2, .int (iI (u))), (3, .int (iI (bI (q))))]) hx hb dX12_last_1 hl (by decide) rfl (fun ls hl => ?_)
  refine xi_iconst hx hb dX12_last_3 ?_
  refine lv_istore (lv' := [(5, .int (iI (0))), (4, .int (iI ((-1)))), (0, .ref (ix 100)), (1, .int (iI (b))), (2, .int (iI (u))), (3, .int (iI (bI (q))))]) hx hb dX12_last_4 hl (by decide) rfl (fun ls hl => ?_)
  refine lp_w2 (Wg := fun (H : Heap) (locs : List Loc) (ls : Array Slot) => W p_ l e_ { frames := 0, cells := 0, slots := 0, locals := 0 } s_ m_ ([.ref (ix 100), .int (iI b), .int (iI u), .int (iI (bI q))] : List Value).toArray be_ me_ co_ H locs 0 0 (MQ be_ (gQ D B0 (fun (r : Option Value) (g : gF) => r = some (.int (iI (laS S I b u q (S.1 8 0).toNat))) ∧ g = mW cy ix S (mX I aM qM tM) G)) ([.ref (ix 100), .int (iI b), .int (iI u), .int (iI (bI q))] : List Value).toArray s_ 0 0 (fun q : Nat => B0 ≤ q)) (F0 m_ 6 ls [])) (fun (k : Int) (la : Int) (H : Heap) (locs : List Loc) (ls : Array Slot) => ((0 ≤ k ∧ k ≤ S.1 8 0) ∧ -1 ≤ la ∧ la < k ∧ la = laS S I b u q k.toNat) ∧ gW D B0 s_ (mW cy ix S (mX (I) (aM) (qM) (tM)) G) H locs ∧ lv_has ls 7 [(5, .int (iI (k))), (4, .int (iI (la))), (3, .int (iI (bI (q)))), (2, .int (iI (u))), (1, .int (iI (b))), (0, .ref (ix 100))]) (fun (k : Int) (la : Int) => (60 - k).toNat) (fun k la H locs ls hI ih_lp_1 => ?_) (0) (-1) _ _ _ ⟨⟨⟨by omega, (wf_8 hwf 0).1⟩, by decide, by decide, rfl⟩, hW, lv_sub hl [0, 1, 5, 4, 3, 2] rfl⟩
  obtain ⟨hI_lp_1, hW, hl⟩ := hI
  obtain ⟨hk, hla0, hla1, hla2⟩ := hI_lp_1
  have h80 := wf_8 hwf 0
  refine lv_iload hx hb dX12_last_6 (lv_at hl 0 rfl) ?_
  refine lv_aload_n hx hb dX12_last_8 rfl (lv_at hl 5 rfl) ?_
  refine mr_get K hK hW hin 8 (by decide) lM_payments (v := .int (iI (S.1 8 (0)))) rfl dX12_last_9 ?_
  have w_w_2 := wf_8 hwf 0
  refine xi_icmp_ge (tgt := 106) hx hb ⟨by omega, by omega⟩ ⟨by omega, by omega⟩ dX12_last_12 (by decide) (fun c_3 => ?_) (fun c_3 => ?_)
  · refine lv_iload hx hb dX12_last_106 (lv_at hl 1 rfl) ?_
    exact g_iret hx hb hr hW ⟨by rw [show S.1 8 0 = k by omega, hla2], rfl⟩ dX12_last_108 hlk
  · have j_4 : ∀ (zJ : Bool) (H : Heap) (locs : List Loc), zJ = (I k && decide (S.1 9 k = b) && (decide (u = -1) || decide (S.1 10 k = u))) → gW D B0 s_ (mW cy ix S (mX (I) (aM) (qM) (tM)) G) H locs → W p_ l e_ { frames := 0, cells := 0, slots := 0, locals := 0 } s_ m_ ([.ref (ix 100), .int (iI b), .int (iI u), .int (iI (bI q))] : List Value).toArray be_ me_ co_ H locs 0 0 (MQ be_ (gQ D B0 (fun (r : Option Value) (g : gF) => r = some (.int (iI (laS S I b u q (S.1 8 0).toNat))) ∧ g = mW cy ix S (mX I aM qM tM) G)) ([.ref (ix 100), .int (iI b), .int (iI u), .int (iI (bI q))] : List Value).toArray s_ 0 0 (fun q : Nat => B0 ≤ q)) (F0 m_ 57 ls [.int (iI (bI (zJ)))]) := by
      intro zJ H locs hzJ hW
      subst hzJ
      refine lv_istore (lv' := [(6, .int (iI (bI (I k && decide (S.1 9 k = b) && (decide (u = -1) || decide (S.1 10 k = u)))))), (5, .int (iI (k))), (4, .int (iI (la))), (3, .int (iI (bI (q)))), (2, .int (iI (u))), (1, .int (iI (b))), (0, .ref (ix 100))]) hx hb dX12_last_57 hl (by decide) rfl (fun ls hl => ?_)
      have j_5 : ∀ (zJ : Int) (H : Heap) (locs : List Loc), zJ = (laN S I b u q la k) → gW D B0 s_ (mW cy ix S (mX (I) (aM) (qM) (tM)) G) H locs → W p_ l e_ { frames := 0, cells := 0, slots := 0, locals := 0 } s_ m_ ([.ref (ix 100), .int (iI b), .int (iI u), .int (iI (bI q))] : List Value).toArray be_ me_ co_ H locs 0 0 (MQ be_ (gQ D B0 (fun (r : Option Value) (g : gF) => r = some (.int (iI (laS S I b u q (S.1 8 0).toNat))) ∧ g = mW cy ix S (mX I aM qM tM) G)) ([.ref (ix 100), .int (iI b), .int (iI u), .int (iI (bI q))] : List Value).toArray s_ 0 0 (fun q : Nat => B0 ≤ q)) (F0 m_ 98 ls [.int (iI (zJ))]) := by
        intro zJ H locs hzJ hW
        subst hzJ
        refine lv_istore (lv' := [(4, .int (iI (laN S I b u q la k))), (6, .int (iI (bI (I k && decide (S.1 9 k = b) && (decide (u = -1) || decide (S.1 10 k = u)))))), (5, .int (iI (k))), (3, .int (iI (bI (q)))), (2, .int (iI (u))), (1, .int (iI (b))), (0, .ref (ix 100))]) hx hb dX12_last_98 hl (by decide) rfl (fun ls hl => ?_)
        refine xi_iinc (lv' := [(5, .int (iI (k + 1))), (4, .int (iI (laN S I b u q la k))), (6, .int (iI (bI (I k && decide (S.1 9 k = b) && (decide (u = -1) || decide (S.1 10 k = u)))))), (3, .int (iI (bI (q)))), (2, .int (iI (u))), (1, .int (iI (b))), (0, .ref (ix 100))]) hx hb dX12_last_100 hl (k := 2) rfl (by decide) rfl (fun ls hl => ?_)
        refine lv_goto (tgt := 6) hx hb dX12_last_103 (by decide) ?_
        exact ih_lp_1 (k + 1) (laN S I b u q la k) _ _ _ (by have := wf_8 hwf 0; first | omega | (dsimp only; omega)) ⟨⟨⟨by omega, by omega⟩, (laN_r ⟨by omega, by omega⟩ ⟨by omega, by omega⟩).1, (laN_r ⟨by omega, by omega⟩ ⟨by omega, by omega⟩).2, by rw [show (k + 1).toNat = k.toNat + 1 by omega, laS_s, show ((k.toNat : Nat) : Int) = k by omega, hla2]⟩, hW, lv_sub hl [0, 1, 3, 4, 5, 6] rfl⟩
      refine lv_iload hx hb dX12_last_59 (lv_at hl 0 rfl) ?_
      refine xi_ifb_eq (tgt := 96) hx hb dX12_last_61 (by decide) (fun c_6 => ?_) (fun c_6 => ?_)
      · refine lv_iload hx hb dX12_last_96 (lv_at hl 2 rfl) ?_
        exact xi_eq (z' := laN S I b u q la k) (by simp only [laN, c_3, Int.not_le.mpr c_3, c_6, decide_true, decide_false, Bool.true_and, Bool.and_true, Bool.false_and, Bool.and_false, Bool.true_or, Bool.or_true, Bool.false_or, Bool.or_false, Bool.not_true, Bool.not_false, eq_self, if_true, if_false, ite_true, ite_false, Bool.false_eq_true, reduceCtorEq, not_false_eq_true]) (j_5 _ _ _ rfl hW)
      · refine lv_iload hx hb dX12_last_64 (lv_at hl 2 rfl) ?_
        refine xi_iconst hx hb dX12_last_66 ?_
        refine xi_icmp_eq (tgt := 91) hx hb ⟨by omega, by omega⟩ ⟨by omega, by omega⟩ dX12_last_67 (by decide) (fun c_7 => ?_) (fun c_7 => ?_)
        · refine lv_iload hx hb dX12_last_91 (lv_at hl 1 rfl) ?_
          refine lv_goto (tgt := 98) hx hb dX12_last_93 (by decide) ?_
          exact xi_eq (z' := laN S I b u q la k) (by simp only [laN, c_3, Int.not_le.mpr c_3, c_6, c_7, decide_true, decide_false, Bool.true_and, Bool.and_true, Bool.false_and, Bool.and_false, Bool.true_or, Bool.or_true, Bool.false_or, Bool.or_false, Bool.not_true, Bool.not_false, eq_self, if_true, if_false, ite_true, ite_false, Bool.false_eq_true, reduceCtorEq, not_false_eq_true]) (j_5 _ _ _ rfl hW)
        · refine lv_iload_n hx hb dX12_last_70 rfl (lv_at hl 3 rfl) ?_
          refine xi_ifb_eq (tgt := 91) hx hb dX12_last_71 (by decide) (fun c_8 => ?_) (fun c_8 => ?_)
          · refine lv_iload hx hb dX12_last_91 (lv_at hl 1 rfl) ?_
            refine lv_goto (tgt := 98) hx hb dX12_last_93 (by decide) ?_
            exact xi_eq (z' := laN S I b u q la k) (by simp only [laN, c_3, Int.not_le.mpr c_3, c_6, c_7, c_8, decide_true, decide_false, Bool.true_and, Bool.and_true, Bool.false_and, Bool.and_false, Bool.true_or, Bool.or_true, Bool.false_or, Bool.or_false, Bool.not_true, Bool.not_false, eq_self, if_true, if_false, ite_true, ite_false, Bool.false_eq_true, reduceCtorEq, not_false_eq_true]) (j_5 _ _ _ rfl hW)
          · refine lv_aload_n hx hb dX12_last_74 rfl (lv_at hl 6 rfl) ?_
            refine mr_get K hK hW hin 14 (by decide) lM_rank (v := .ref (ix 114)) rfl dX12_last_75 ?_
            refine lv_iload hx hb dX12_last_78 (lv_at hl 1 rfl) ?_
            refine mr_iald K hK hW 14 (by decide) rfl (n := 60) rfl rfl ⟨by omega, by omega⟩ (v := S.1 14 (k)) rfl dX12_last_80 ?_
            have w_9 := wf_14 hwf (k)
            refine lv_aload_n hx hb dX12_last_81 rfl (lv_at hl 6 rfl) ?_
            refine mr_get K hK hW hin 14 (by decide) lM_rank (v := .ref (ix 114)) rfl dX12_last_82 ?_
            refine lv_iload hx hb dX12_last_85 (lv_at hl 2 rfl) ?_
            refine mr_iald K hK hW 14 (by decide) rfl (n := 60) rfl rfl ⟨by omega, by omega⟩ (v := S.1 14 (la)) rfl dX12_last_87 ?_
            have w_10 := wf_14 hwf (la)
            refine xi_icmp_gt (tgt := 96) hx hb ⟨by omega, by omega⟩ ⟨by omega, by omega⟩ dX12_last_88 (by decide) (fun c_11 => ?_) (fun c_11 => ?_)
            · refine lv_iload hx hb dX12_last_96 (lv_at hl 2 rfl) ?_
              exact xi_eq (z' := laN S I b u q la k) (by simp only [laN, c_3, Int.not_le.mpr c_3, c_6, c_7, c_8, c_11, Int.not_le.mpr c_11, decide_true, decide_false, Bool.true_and, Bool.and_true, Bool.false_and, Bool.and_false, Bool.true_or, Bool.or_true, Bool.false_or, Bool.or_false, Bool.not_true, Bool.not_false, eq_self, if_true, if_false, ite_true, ite_false, Bool.false_eq_true, reduceCtorEq, not_false_eq_true]) (j_5 _ _ _ rfl hW)
            · refine lv_iload hx hb dX12_last_91 (lv_at hl 1 rfl) ?_
              refine lv_goto (tgt := 98) hx hb dX12_last_93 (by decide) ?_
              exact xi_eq (z' := laN S I b u q la k) (by simp only [laN, c_3, Int.not_le.mpr c_3, c_6, c_7, c_8, c_11, Int.not_lt.mpr c_11, decide_true, decide_false, Bool.true_and, Bool.and_true, Bool.false_and, Bool.and_false, Bool.true_or, Bool.or_true, Bool.false_or, Bool.or_false, Bool.not_true, Bool.not_false, eq_self, if_true, if_false, ite_true, ite_false, Bool.false_eq_true, reduceCtorEq, not_false_eq_true]) (j_5 _ _ _ rfl hW)
    refine lv_aload_n hx hb dX12_last_15 rfl (lv_at hl 5 rfl) ?_
    refine mr_get K hK hW hin 33 (by decide) lM_isIn (v := .ref (ix 133)) rfl dX12_last_16 ?_
    refine lv_iload hx hb dX12_last_19 (lv_at hl 0 rfl) ?_
    refine mr_zald K hK hW 33 (by decide) rfl (n := 60) rfl rfl ⟨by omega, by omega⟩ (v := bI (I (k))) rfl dX12_last_21 ?_
    refine xi_ifb_eq (tgt := 56) hx hb dX12_last_22 (by decide) (fun c_12 => ?_) (fun c_12 => ?_)
    · refine xi_iconst hx hb dX12_last_56 ?_
      exact xi_eq (z' := bI (I k && decide (S.1 9 k = b) && (decide (u = -1) || decide (S.1 10 k = u)))) (bI_f (by simp only [c_3, Int.not_le.mpr c_3, c_12, decide_true, decide_false, Bool.true_and, Bool.and_true, Bool.false_and, Bool.and_false, Bool.true_or, Bool.or_true, Bool.false_or, Bool.or_false, Bool.not_true, Bool.not_false, eq_self])) (j_4 _ _ _ rfl hW)
    · refine lv_aload_n hx hb dX12_last_25 rfl (lv_at hl 5 rfl) ?_
      refine mr_get K hK hW hin 9 (by decide) lM_from (v := .ref (ix 109)) rfl dX12_last_26 ?_
      refine lv_iload hx hb dX12_last_29 (lv_at hl 0 rfl) ?_
      refine mr_iald K hK hW 9 (by decide) rfl (n := 60) rfl rfl ⟨by omega, by omega⟩ (v := S.1 9 (k)) rfl dX12_last_31 ?_
      have w_13 := wf_9 hwf (k)
      refine lv_iload_n hx hb dX12_last_32 rfl (lv_at hl 4 rfl) ?_
      refine xi_icmp_ne (tgt := 56) hx hb ⟨by omega, by omega⟩ ⟨by omega, by omega⟩ dX12_last_33 (by decide) (fun c_14 => ?_) (fun c_14 => ?_)
      · refine xi_iconst hx hb dX12_last_56 ?_
        exact xi_eq (z' := bI (I k && decide (S.1 9 k = b) && (decide (u = -1) || decide (S.1 10 k = u)))) (bI_f (by simp only [c_3, Int.not_le.mpr c_3, c_12, c_14, decide_true, decide_false, Bool.true_and, Bool.and_true, Bool.false_and, Bool.and_false, Bool.true_or, Bool.or_true, Bool.false_or, Bool.or_false, Bool.not_true, Bool.not_false, eq_self])) (j_4 _ _ _ rfl hW)
      · refine lv_iload_n hx hb dX12_last_36 rfl (lv_at hl 3 rfl) ?_
        refine xi_iconst hx hb dX12_last_37 ?_
        refine xi_icmp_eq (tgt := 52) hx hb ⟨by omega, by omega⟩ ⟨by omega, by omega⟩ dX12_last_38 (by decide) (fun c_15 => ?_) (fun c_15 => ?_)
        · refine xi_iconst hx hb dX12_last_52 ?_
          refine lv_goto (tgt := 57) hx hb dX12_last_53 (by decide) ?_
          exact xi_eq (z' := bI (I k && decide (S.1 9 k = b) && (decide (u = -1) || decide (S.1 10 k = u)))) (bI_t (by simp only [c_3, Int.not_le.mpr c_3, c_12, c_14, c_15, decide_true, decide_false, Bool.true_and, Bool.and_true, Bool.false_and, Bool.and_false, Bool.true_or, Bool.or_true, Bool.false_or, Bool.or_false, Bool.not_true, Bool.not_false, eq_self])) (j_4 _ _ _ rfl hW)
        · refine lv_aload_n hx hb dX12_last_41 rfl (lv_at hl 5 rfl) ?_
          refine mr_get K hK hW hin 10 (by decide) lM_to (v := .ref (ix 110)) rfl dX12_last_42 ?_
          refine lv_iload hx hb dX12_last_45 (lv_at hl 0 rfl) ?_
          refine mr_iald K hK hW 10 (by decide) rfl (n := 60) rfl rfl ⟨by omega, by omega⟩ (v := S.1 10 (k)) rfl dX12_last_47 ?_
          have w_16 := wf_10 hwf (k)
          refine lv_iload_n hx hb dX12_last_48 rfl (lv_at hl 3 rfl) ?_
          refine xi_icmp_ne (tgt := 56) hx hb ⟨by omega, by omega⟩ ⟨by omega, by omega⟩ dX12_last_49 (by decide) (fun c_17 => ?_) (fun c_17 => ?_)
          · refine xi_iconst hx hb dX12_last_56 ?_
            exact xi_eq (z' := bI (I k && decide (S.1 9 k = b) && (decide (u = -1) || decide (S.1 10 k = u)))) (bI_f (by simp only [c_3, Int.not_le.mpr c_3, c_12, c_14, c_15, c_17, decide_true, decide_false, Bool.true_and, Bool.and_true, Bool.false_and, Bool.and_false, Bool.true_or, Bool.or_true, Bool.false_or, Bool.or_false, Bool.not_true, Bool.not_false, eq_self])) (j_4 _ _ _ rfl hW)
          · refine xi_iconst hx hb dX12_last_52 ?_
            refine lv_goto (tgt := 57) hx hb dX12_last_53 (by decide) ?_
            exact xi_eq (z' := bI (I k && decide (S.1 9 k = b) && (decide (u = -1) || decide (S.1 10 k = u)))) (bI_t (by simp only [c_3, Int.not_le.mpr c_3, c_12, c_14, c_15, c_17, decide_true, decide_false, Bool.true_and, Bool.and_true, Bool.false_and, Bool.and_false, Bool.true_or, Bool.or_true, Bool.false_or, Bool.or_false, Bool.not_true, Bool.not_false, eq_self])) (j_4 _ _ _ rfl hW)
set_option maxHeartbeats 4000000 in
set_option maxRecDepth 100000 in
theorem c_M_enters {l : Launch} {D : va_G} {cy : Nat → ClassId} {B0 : Nat} {ix : Nat → Nat} {S : ST} {I : Int → Bool} {aM qM : Int → Int64} {tM : Int} {G : gF} (k : Int) (hk : 0 ≤ k ∧ k ≤ 59) (hwf : wf S) : gM l yX12_enters vX12_enters 0 0 D cy B0 [.ref (ix 100), .int (iI k)] (mW cy ix S (mX I aM qM tM) G) (fun r g => r = none ∧ g = mW cy ix (sEnter S k) (mX I aM qM tM) G) 0 0 := by
  refine g_start (cc := cX12_enters) (maxL := 2) (ret := none) (by decide) rfl (Nat.le_of_ble_eq_true rfl) ?_
  intro p_ e_ s_ m_ be_ me_ co_ ls H locs K hr hlk hnm hK hW hl
  have hin : ∀ w ∈ wsX120, w ∈ vX12_enters := wsM_cls
  obtain ⟨hx, hb, hml, hown, hts⟩ := id K
  have hl : lv_has ls 2 [(0, .ref (ix 100)), (1, .int (iI (k)))] := hl
  refine lv_aload_n hx hb dX12_enters_0 rfl (lv_at hl 0 rfl) ?_
  refine mr_get K hK hW hin 18 (by decide) lM_state (v := .ref (ix 118)) rfl dX12_enters_1 ?_
  refine lv_iload_n hx hb dX12_enters_4 rfl (lv_at hl 1 rfl) ?_
  refine lv_aload_n hx hb dX12_enters_5 rfl (lv_at hl 0 rfl) ?_
  refine mr_get K hK hW hin 7 (by decide) lM_isListed (v := .ref (ix 107)) rfl dX12_enters_6 ?_
  refine lv_aload_n hx hb dX12_enters_9 rfl (lv_at hl 0 rfl) ?_
  refine mr_get K hK hW hin 13 (by decide) lM_payee (v := .ref (ix 113)) rfl dX12_enters_10 ?_
  refine lv_iload_n hx hb dX12_enters_13 rfl (lv_at hl 1 rfl) ?_
  refine mr_iald K hK hW 13 (by decide) rfl (n := 60) rfl rfl ⟨by omega, by omega⟩ (v := S.1 13 (k)) rfl dX12_enters_14 ?_
  have w_1 := wf_13 hwf (k)
  refine mr_zald K hK hW 7 (by decide) rfl (n := 20) rfl rfl ⟨by omega, by omega⟩ (v := S.1 7 (S.1 13 (k))) rfl dX12_enters_15 ?_
  have w_2 := wf_7 hwf (S.1 13 (k))
  refine xi_if_eq (tgt := 32) hx hb ⟨by omega, by omega⟩ dX12_enters_16 (by decide) (fun c_3 => ?_) (fun c_3 => ?_)
  · refine lv_aload_n hx hb dX12_enters_32 rfl (lv_at hl 0 rfl) ?_
    refine mr_get K hK hW hin 15 (by decide) lM_isReal (v := .ref (ix 115)) rfl dX12_enters_33 ?_
    refine lv_iload_n hx hb dX12_enters_36 rfl (lv_at hl 1 rfl) ?_
    refine mr_zald K hK hW 15 (by decide) rfl (n := 60) rfl rfl ⟨by omega, by omega⟩ (v := S.1 15 (k)) rfl dX12_enters_37 ?_
    have w_4 := wf_15 hwf (k)
    refine xi_if_eq (tgt := 45) hx hb ⟨by omega, by omega⟩ dX12_enters_38 (by decide) (fun c_5 => ?_) (fun c_5 => ?_)
    · refine xi_iconst hx hb dX12_enters_45 ?_
      refine mr_iast K hK hW 18 (by decide) rfl (n := 60) rfl rfl ⟨by omega, by omega⟩ dX12_enters_46 (fun H locs hW => ?_)
      exact g_vret hx hb hr hW ⟨rfl, by unfold sEnter; rw [show sEntV S k = 3 by simp only [sEntV, c_3, c_5, decide_true, decide_false, Bool.true_and, Bool.and_true, Bool.false_and, Bool.and_false, Bool.true_or, Bool.or_true, Bool.false_or, Bool.or_false, Bool.not_true, Bool.not_false, eq_self, if_true, if_false, ite_true, ite_false, Bool.false_eq_true, reduceCtorEq, not_false_eq_true]]⟩ dX12_enters_47 hlk
    · refine xi_iconst hx hb dX12_enters_41 ?_
      refine lv_goto (tgt := 46) hx hb dX12_enters_42 (by decide) ?_
      refine mr_iast K hK hW 18 (by decide) rfl (n := 60) rfl rfl ⟨by omega, by omega⟩ dX12_enters_46 (fun H locs hW => ?_)
      exact g_vret hx hb hr hW ⟨rfl, by unfold sEnter; rw [show sEntV S k = 2 by simp only [sEntV, c_3, c_5, decide_true, decide_false, Bool.true_and, Bool.and_true, Bool.false_and, Bool.and_false, Bool.true_or, Bool.or_true, Bool.false_or, Bool.or_false, Bool.not_true, Bool.not_false, eq_self, if_true, if_false, ite_true, ite_false, Bool.false_eq_true, reduceCtorEq, not_false_eq_true]]⟩ dX12_enters_47 hlk
  · refine lv_aload_n hx hb dX12_enters_19 rfl (lv_at hl 0 rfl) ?_
    refine mr_get K hK hW hin 19 (by decide) lM_isReleased (v := .ref (ix 119)) rfl dX12_enters_20 ?_
    refine lv_iload_n hx hb dX12_enters_23 rfl (lv_at hl 1 rfl) ?_
    refine mr_zald K hK hW 19 (by decide) rfl (n := 60) rfl rfl ⟨by omega, by omega⟩ (v := S.1 19 (k)) rfl dX12_enters_24 ?_
    have w_6 := wf_19 hwf (k)
    refine xi_if_ne (tgt := 32) hx hb ⟨by omega, by omega⟩ dX12_enters_25 (by decide) (fun c_7 => ?_) (fun c_7 => ?_)
    · refine lv_aload_n hx hb dX12_enters_32 rfl (lv_at hl 0 rfl) ?_
      refine mr_get K hK hW hin 15 (by decide) lM_isReal (v := .ref (ix 115)) rfl dX12_enters_33 ?_
      refine lv_iload_n hx hb dX12_enters_36 rfl (lv_at hl 1 rfl) ?_
      refine mr_zald K hK hW 15 (by decide) rfl (n := 60) rfl rfl ⟨by omega, by omega⟩ (v := S.1 15 (k)) rfl dX12_enters_37 ?_
      have w_8 := wf_15 hwf (k)
      refine xi_if_eq (tgt := 45) hx hb ⟨by omega, by omega⟩ dX12_enters_38 (by decide) (fun c_9 => ?_) (fun c_9 => ?_)
      · refine xi_iconst hx hb dX12_enters_45 ?_
        refine mr_iast K hK hW 18 (by decide) rfl (n := 60) rfl rfl ⟨by omega, by omega⟩ dX12_enters_46 (fun H locs hW => ?_)
        exact g_vret hx hb hr hW ⟨rfl, by unfold sEnter; rw [show sEntV S k = 3 by simp only [sEntV, c_3, c_7, c_9, decide_true, decide_false, Bool.true_and, Bool.and_true, Bool.false_and, Bool.and_false, Bool.true_or, Bool.or_true, Bool.false_or, Bool.or_false, Bool.not_true, Bool.not_false, eq_self, if_true, if_false, ite_true, ite_false, Bool.false_eq_true, reduceCtorEq, not_false_eq_true]]⟩ dX12_enters_47 hlk
      · refine xi_iconst hx hb dX12_enters_41 ?_
        refine lv_goto (tgt := 46) hx hb dX12_enters_42 (by decide) ?_
        refine mr_iast K hK hW 18 (by decide) rfl (n := 60) rfl rfl ⟨by omega, by omega⟩ dX12_enters_46 (fun H locs hW => ?_)
        exact g_vret hx hb hr hW ⟨rfl, by unfold sEnter; rw [show sEntV S k = 2 by simp only [sEntV, c_3, c_7, c_9, decide_true, decide_false, Bool.true_and, Bool.and_true, Bool.false_and, Bool.and_false, Bool.true_or, Bool.or_true, Bool.false_or, Bool.or_false, Bool.not_true, Bool.not_false, eq_self, if_true, if_false, ite_true, ite_false, Bool.false_eq_true, reduceCtorEq, not_false_eq_true]]⟩ dX12_enters_47 hlk
    · refine xi_iconst hx hb dX12_enters_28 ?_
      refine lv_goto (tgt := 46) hx hb dX12_enters_29 (by decide) ?_
      refine mr_iast K hK hW 18 (by decide) rfl (n := 60) rfl rfl ⟨by omega, by omega⟩ dX12_enters_46 (fun H locs hW => ?_)
      exact g_vret hx hb hr hW ⟨rfl, by unfold sEnter; rw [show sEntV S k = 1 by simp only [sEntV, c_3, c_7, decide_true, decide_false, Bool.true_and, Bool.and_true, Bool.false_and, Bool.and_false, Bool.true_or, Bool.or_true, Bool.false_or, Bool.or_false, Bool.not_true, Bool.not_false, eq_self, if_true, if_false, ite_true, ite_false, Bool.false_eq_true, reduceCtorEq, not_false_eq_true]]⟩ dX12_enters_47 hlk
set_option maxHeartbeats 4000000 in
set_option maxRecDepth 100000 in
theorem c_M_comes {l : Launch} {D : va_G} {cy : Nat → ClassId} {B0 : Nat} {ix : Nat → Nat} {S : ST} {I : Int → Bool} {aM qM : Int → Int64} {tM : Int} {G : gF} (b : Int) (u : Int) (c : Int) (v : Int) (nm : Int) (h : Int) (rl : Bool) (d : Int) (st : Bool) (hb0 : 0 ≤ b ∧ b ≤ 5) (hu : 0 ≤ u ∧ u ≤ 5) (hc : 0 ≤ c ∧ c ≤ 2) (hv : 0 ≤ v ∧ v ≤ 1000000) (hnm : 0 ≤ nm ∧ nm ≤ 19) (hh : 0 ≤ h ∧ h ≤ 2) (hd : 0 ≤ d ∧ d ≤ 999) (hn : S.1 8 0 < 60) (hwf : wf S) : gM l yX12_comes vX12_comes 1 22 D cy B0 [.ref (ix 100), .int (iI b), .int (iI u), .int (iI c), .int (iI v), .int (iI nm), .int (iI h), .int (iI (bI rl)), .int (iI d), .int (iI (bI st))] (mW cy ix S (mX I aM qM tM) G) (fun r g => r = some (.int (iI (S.1 8 0))) ∧ g = mW cy ix (sCome S b u c v nm h rl d st) (mX I aM qM tM) G) 0 0 := by
  refine g_start (cc := cX12_comes) (maxL := 11) (ret := (some .int)) (by decide) rfl (Nat.le_of_ble_eq_true rfl) ?_
  intro p_ e_ s_ m_ be_ me_ co_ ls H locs K hr hlk hnm hK hW hl
  have hin : ∀ w ∈ wsX120, w ∈ vX12_comes := wsM_cls
  obtain ⟨hx, hb, hml, hown, hts⟩ := id K
  have hl : lv_has ls 11 [(0, .ref (ix 100)), (1, .int (iI (b))), (2, .int (iI (u))), (3, .int (iI (c))), (4, .int (iI (v))), (5, .int (iI (nm))), (6, .int (iI (h))), (7, .int (iI (bI (rl)))), (8, .int (iI (d))), (9, .int (iI (bI (st))))] := hl
  have hrl := bI_01 rl
  have hst := bI_01 st
  have h80 := wf_8 hwf 0
  refine lv_aload_n hx hb dX12_comes_0 rfl (lv_at hl 0 rfl) ?_
  refine mr_get K hK hW hin 8 (by decide) lM_payments (v := .int (iI (S.1 8 (0)))) rfl dX12_comes_1 ?_
  have w_w_1 := wf_8 hwf 0
  refine lv_istore (lv' := [(10, .int (iI (S.1 8 (0)))), (0, .ref (ix 100)), (1, .int (iI (b))), (2, .int (iI (u))), (3, .int (iI (c))), (4, .int (iI (v))), (5, .int (iI (nm))), (6, .int (iI (h))), (7, .int (iI (bI (rl)))), (8, .int (iI (d))), (9, .int (iI (bI (st))))]) hx hb dX12_comes_4 hl (by decide) rfl (fun ls hl => ?_)
  refine lv_aload_n hx hb dX12_comes_6 rfl (lv_at hl 1 rfl) ?_
  refine lv_dup hx hb dX12_comes_7 rfl ?_
  refine mr_get K hK hW hin 8 (by decide) lM_payments (v := .int (iI (S.1 8 (0)))) rfl dX12_comes_8 ?_
  have w_w_2 := wf_8 hwf 0
  refine xi_iconst hx hb dX12_comes_11 ?_
  refine xi_iadd hx hb dX12_comes_12 ?_
  refine mr_put K hK hW hin 8 (by decide) lM_payments rfl rfl (S' := (pI S 8 (0) ((S.1 8 (0)) + 1))) (X' := (mX (I) (aM) (qM) (tM))) rfl (fun i hi => mC_sc rfl hi (by decide)) dX12_comes_13 (fun H locs hW => ?_)
  refine lv_aload_n hx hb dX12_comes_16 rfl (lv_at hl 1 rfl) ?_
  refine mr_get K hK hW hin 9 (by decide) lM_from (v := .ref (ix 109)) rfl dX12_comes_17 ?_
  refine lv_iload hx hb dX12_comes_20 (lv_at hl 0 rfl) ?_
  refine lv_iload_n hx hb dX12_comes_22 rfl (lv_at hl 2 rfl) ?_
  refine mr_iast K hK hW 9 (by decide) rfl (n := 60) rfl rfl ⟨by omega, by omega⟩ dX12_comes_23 (fun H locs hW => ?_)
  refine lv_aload_n hx hb dX12_comes_24 rfl (lv_at hl 1 rfl) ?_
  refine mr_get K hK hW hin 10 (by decide) lM_to (v := .ref (ix 110)) rfl dX12_comes_25 ?_
  refine lv_iload hx hb dX12_comes_28 (lv_at hl 0 rfl) ?_
  refine lv_iload_n hx hb dX12_comes_30 rfl (lv_at hl 3 rfl) ?_
  refine mr_iast K hK hW 10 (by decide) rfl (n := 60) rfl rfl ⟨by omega, by omega⟩ dX12_comes_31 (fun H locs hW => ?_)
  refine lv_aload_n hx hb dX12_comes_32 rfl (lv_at hl 1 rfl) ?_
  refine mr_get K hK hW hin 11 (by decide) lM_currency (v := .ref (ix 111)) rfl dX12_comes_33 ?_
  refine lv_iload hx hb dX12_comes_36 (lv_at hl 0 rfl) ?_
  refine lv_iload_n hx hb dX12_comes_38 rfl (lv_at hl 4 rfl) ?_
  refine mr_iast K hK hW 11 (by decide) rfl (n := 60) rfl rfl ⟨by omega, by omega⟩ dX12_comes_39 (fun H locs hW => ?_)
  refine lv_aload_n hx hb dX12_comes_40 rfl (lv_at hl 1 rfl) ?_
  refine mr_get K hK hW hin 12 (by decide) lM_amount (v := .ref (ix 112)) rfl dX12_comes_41 ?_
  refine lv_iload hx hb dX12_comes_44 (lv_at hl 0 rfl) ?_
  refine lv_iload hx hb dX12_comes_46 (lv_at hl 5 rfl) ?_
  refine mr_iast K hK hW 12 (by decide) rfl (n := 60) rfl rfl ⟨by omega, by omega⟩ dX12_comes_48 (fun H locs hW => ?_)
  refine lv_aload_n hx hb dX12_comes_49 rfl (lv_at hl 1 rfl) ?_
  refine mr_get K hK hW hin 13 (by decide) lM_payee (v := .ref (ix 113)) rfl dX12_comes_50 ?_
  refine lv_iload hx hb dX12_comes_53 (lv_at hl 0 rfl) ?_
  refine lv_iload hx hb dX12_comes_55 (lv_at hl 6 rfl) ?_
  refine mr_iast K hK hW 13 (by decide) rfl (n := 60) rfl rfl ⟨by omega, by omega⟩ dX12_comes_57 (fun H locs hW => ?_)
  refine lv_aload_n hx hb dX12_comes_58 rfl (lv_at hl 1 rfl) ?_
  refine mr_get K hK hW hin 14 (by decide) lM_rank (v := .ref (ix 114)) rfl dX12_comes_59 ?_
  refine lv_iload hx hb dX12_comes_62 (lv_at hl 0 rfl) ?_
  refine lv_iload hx hb dX12_comes_64 (lv_at hl 7 rfl) ?_
  refine mr_iast K hK hW 14 (by decide) rfl (n := 60) rfl rfl ⟨by omega, by omega⟩ dX12_comes_66 (fun H locs hW => ?_)
  refine lv_aload_n hx hb dX12_comes_67 rfl (lv_at hl 1 rfl) ?_
  refine mr_get K hK hW hin 15 (by decide) lM_isReal (v := .ref (ix 115)) rfl dX12_comes_68 ?_
  refine lv_iload hx hb dX12_comes_71 (lv_at hl 0 rfl) ?_
  refine lv_iload hx hb dX12_comes_73 (lv_at hl 8 rfl) ?_
  refine mr_zast K hK hW 15 (by decide) rfl (by decide) (n := 60) rfl rfl ⟨by omega, by omega⟩ (bI_01 _) dX12_comes_75 (fun H locs hW => ?_)
  refine lv_aload_n hx hb dX12_comes_76 rfl (lv_at hl 1 rfl) ?_
  refine mr_get K hK hW hin 16 (by decide) lM_day (v := .ref (ix 116)) rfl dX12_comes_77 ?_
  refine lv_iload hx hb dX12_comes_80 (lv_at hl 0 rfl) ?_
  refine lv_iload hx hb dX12_comes_82 (lv_at hl 9 rfl) ?_
  refine mr_iast K hK hW 16 (by decide) rfl (n := 60) rfl rfl ⟨by omega, by omega⟩ dX12_comes_84 (fun H locs hW => ?_)
  refine lv_aload_n hx hb dX12_comes_85 rfl (lv_at hl 1 rfl) ?_
  refine mr_get K hK hW hin 17 (by decide) lM_stays (v := .ref (ix 117)) rfl dX12_comes_86 ?_
  refine lv_iload hx hb dX12_comes_89 (lv_at hl 0 rfl) ?_
  refine lv_iload hx hb dX12_comes_91 (lv_at hl 10 rfl) ?_
  refine mr_zast K hK hW 17 (by decide) rfl (by decide) (n := 60) rfl rfl ⟨by omega, by omega⟩ (bI_01 _) dX12_comes_93 (fun H locs hW => ?_)
  refine lv_aload_n hx hb dX12_comes_94 rfl (lv_at hl 1 rfl) ?_
  refine mr_get K hK hW hin 20 (by decide) lM_officer (v := .ref (ix 120)) rfl dX12_comes_95 ?_
  refine lv_iload hx hb dX12_comes_98 (lv_at hl 0 rfl) ?_
  refine xi_iconst hx hb dX12_comes_100 ?_
  refine mr_iast K hK hW 20 (by decide) rfl (n := 60) rfl rfl ⟨by omega, by omega⟩ dX12_comes_101 (fun H locs hW => ?_)
  refine lv_aload_n hx hb dX12_comes_102 rfl (lv_at hl 1 rfl) ?_
  refine mr_get K hK hW hin 21 (by decide) lM_leg (v := .ref (ix 121)) rfl dX12_comes_103 ?_
  refine lv_iload hx hb dX12_comes_106 (lv_at hl 0 rfl) ?_
  refine xi_iconst hx hb dX12_comes_108 ?_
  refine mr_iast K hK hW 21 (by decide) rfl (n := 60) rfl rfl ⟨by omega, by omega⟩ dX12_comes_109 (fun H locs hW => ?_)
  refine lv_aload_n hx hb dX12_comes_110 rfl (lv_at hl 1 rfl) ?_
  refine mr_get K hK hW hin 23 (by decide) lM_recalledOn (v := .ref (ix 123)) rfl dX12_comes_111 ?_
  refine lv_iload hx hb dX12_comes_114 (lv_at hl 0 rfl) ?_
  refine xi_iconst hx hb dX12_comes_116 ?_
  refine mr_iast K hK hW 23 (by decide) rfl (n := 60) rfl rfl ⟨by omega, by omega⟩ dX12_comes_117 (fun H locs hW => ?_)
  refine lv_aload_n hx hb dX12_comes_118 rfl (lv_at hl 1 rfl) ?_
  refine mr_get K hK hW hin 18 (by decide) lM_state (v := .ref (ix 118)) rfl dX12_comes_119 ?_
  refine lv_iload hx hb dX12_comes_122 (lv_at hl 0 rfl) ?_
  refine xi_iconst hx hb dX12_comes_124 ?_
  refine mr_iast K hK hW 18 (by decide) rfl (n := 60) rfl rfl ⟨by omega, by omega⟩ dX12_comes_125 (fun H locs hW => ?_)
  refine lv_iload hx hb dX12_comes_126 (lv_at hl 9 rfl) ?_
  refine lv_aload_n hx hb dX12_comes_128 rfl (lv_at hl 1 rfl) ?_
  refine mr_get K hK hW hin 0 (by decide) lM_today (v := .int (iI (S.1 0 (0)))) rfl dX12_comes_129 ?_
  have w_w_3 := wf_0 hwf 0
  refine xi_icmp_gt (tgt := 153) hx hb ⟨by omega, by omega⟩ ⟨by omega, by omega⟩ dX12_comes_132 (by decide) (fun c_4 => ?_) (fun c_4 => ?_)
  · refine lv_iload hx hb dX12_comes_153 (lv_at hl 0 rfl) ?_
    exact g_iret hx hb hr hW ⟨rfl, by unfold sCome; rw [mW_gCome, if_neg (by simp only [c_4, Int.not_le.mpr c_4, decide_true, decide_false, Bool.true_and, Bool.and_true, Bool.false_and, Bool.and_false, Bool.true_or, Bool.or_true, Bool.false_or, Bool.or_false, Bool.not_true, Bool.not_false, eq_self, if_true, if_false, ite_true, ite_false, Bool.false_eq_true, reduceCtorEq, not_false_eq_true])]; rfl⟩ dX12_comes_155 hlk
  · refine lv_aload_n hx hb dX12_comes_135 rfl (lv_at hl 1 rfl) ?_
    refine lv_iload_n hx hb dX12_comes_136 rfl (lv_at hl 4 rfl) ?_
    refine lv_aload_n hx hb dX12_comes_137 rfl (lv_at hl 1 rfl) ?_
    refine mr_get K hK hW hin 0 (by decide) lM_today (v := .int (iI (S.1 0 (0)))) rfl dX12_comes_138 ?_
    have w_w_5 := wf_0 hwf 0
    refine g_callV (i := 0) (As := [.int (iI (c)), .int (iI (S.1 0 (0)))]) (rest := []) K (c_M_isOpen (c) (S.1 0 (0)) ⟨by omega, by omega⟩ ⟨by omega, by omega⟩ (wf_pI (f := 18) (wf_pI (f := 23) (wf_pI (f := 21) (wf_pI (f := 20) (wf_pI (f := 17) (wf_pI (f := 16) (wf_pI (f := 15) (wf_pI (f := 14) (wf_pI (f := 13) (wf_pI (f := 12) (wf_pI (f := 11) (wf_pI (f := 10) (wf_pI (f := 9) (wf_pI (f := 8) hwf (0) ((S.1 8 (0)) + 1) (by simp only [rLo, rHi]; omega)) (S.1 8 (0)) (b) (by simp only [rLo, rHi]; omega)) (S.1 8 (0)) (u) (by simp only [rLo, rHi]; omega)) (S.1 8 (0)) (c) (by simp only [rLo, rHi]; omega)) (S.1 8 (0)) (v) (by simp only [rLo, rHi]; omega)) (S.1 8 (0)) (nm) (by simp only [rLo, rHi]; omega)) (S.1 8 (0)) (h) (by simp only [rLo, rHi]; omega)) (S.1 8 (0)) (bI (rl)) (by simp only [rLo, rHi]; omega)) (S.1 8 (0)) (d) (by simp only [rLo, rHi]; omega)) (S.1 8 (0)) (bI (st)) (by simp only [rLo, rHi]; omega)) (S.1 8 (0)) ((-1)) (by simp only [rLo, rHi]; omega)) (S.1 8 (0)) ((-1)) (by simp only [rLo, rHi]; omega)) (S.1 8 (0)) ((-1)) (by simp only [rLo, rHi]; omega)) (S.1 8 (0)) (0) (by simp only [rLo, rHi]; omega))) (cwV 2 hts gM_X12_isOpen rfl rfl rfl (by decide +kernel) ⟨Nat.le_of_ble_eq_true rfl, Nat.le_of_ble_eq_true rfl⟩) hK hW (mW_0 _ _ _ _ _) rfl rfl hl.1 rfl (Nat.le_of_ble_eq_true rfl) dX12_comes_141 ⟨Nat.le_refl _, Nat.le_refl _⟩ (fun v_ f_ H locs hp hW => ?_)
    obtain ⟨hpv, hpe⟩ := hp
    rw [hpe] at hW
    have hpv : v_ = some (.int (iI (bI (sOpen S (c) (S.1 0 (0)))))) := hpv
    subst hpv
    refine xi_ifb_eq (tgt := 153) hx hb dX12_comes_144 (by decide) (fun c_6 => ?_) (fun c_6 => ?_)
    · refine lv_iload hx hb dX12_comes_153 (lv_at hl 0 rfl) ?_
      exact g_iret hx hb hr hW ⟨rfl, by unfold sCome; rw [mW_gCome, if_neg (by simp only [c_4, Int.not_lt.mpr c_4, c_6, decide_true, decide_false, Bool.true_and, Bool.and_true, Bool.false_and, Bool.and_false, Bool.true_or, Bool.or_true, Bool.false_or, Bool.or_false, Bool.not_true, Bool.not_false, eq_self, if_true, if_false, ite_true, ite_false, Bool.false_eq_true, reduceCtorEq, not_false_eq_true])]; rfl⟩ dX12_comes_155 hlk
    · refine lv_aload_n hx hb dX12_comes_147 rfl (lv_at hl 1 rfl) ?_
      refine lv_iload hx hb dX12_comes_148 (lv_at hl 0 rfl) ?_
      refine g_callV (i := 0) (As := [.int (iI (S.1 8 (0)))]) (rest := []) K (c_M_enters (S.1 8 (0)) ⟨by omega, by omega⟩ (wf_pI (f := 18) (wf_pI (f := 23) (wf_pI (f := 21) (wf_pI (f := 20) (wf_pI (f := 17) (wf_pI (f := 16) (wf_pI (f := 15) (wf_pI (f := 14) (wf_pI (f := 13) (wf_pI (f := 12) (wf_pI (f := 11) (wf_pI (f := 10) (wf_pI (f := 9) (wf_pI (f := 8) hwf (0) ((S.1 8 (0)) + 1) (by simp only [rLo, rHi]; omega)) (S.1 8 (0)) (b) (by simp only [rLo, rHi]; omega)) (S.1 8 (0)) (u) (by simp only [rLo, rHi]; omega)) (S.1 8 (0)) (c) (by simp only [rLo, rHi]; omega)) (S.1 8 (0)) (v) (by simp only [rLo, rHi]; omega)) (S.1 8 (0)) (nm) (by simp only [rLo, rHi]; omega)) (S.1 8 (0)) (h) (by simp only [rLo, rHi]; omega)) (S.1 8 (0)) (bI (rl)) (by simp only [rLo, rHi]; omega)) (S.1 8 (0)) (d) (by simp only [rLo, rHi]; omega)) (S.1 8 (0)) (bI (st)) (by simp only [rLo, rHi]; omega)) (S.1 8 (0)) ((-1)) (by simp only [rLo, rHi]; omega)) (S.1 8 (0)) ((-1)) (by simp only [rLo, rHi]; omega)) (S.1 8 (0)) ((-1)) (by simp only [rLo, rHi]; omega)) (S.1 8 (0)) (0) (by simp only [rLo, rHi]; omega))) (cwV 1 hts gM_X12_enters rfl rfl rfl (by decide +kernel) ⟨Nat.le_of_ble_eq_true rfl, Nat.le_of_ble_eq_true rfl⟩) hK hW (mW_0 _ _ _ _ _) rfl rfl hl.1 rfl (Nat.le_of_ble_eq_true rfl) dX12_comes_150 ⟨Nat.le_refl _, Nat.le_refl _⟩ (fun v_ f_ H locs hp hW => ?_)
      obtain ⟨hpv, hpe⟩ := hp
      rw [hpe] at hW
      subst hpv
      refine lv_iload hx hb dX12_comes_153 (lv_at hl 0 rfl) ?_
      exact g_iret hx hb hr hW ⟨rfl, by unfold sCome; rw [mW_gCome, if_pos (by simp only [c_4, Int.not_lt.mpr c_4, c_6, decide_true, decide_false, Bool.true_and, Bool.and_true, Bool.false_and, Bool.and_false, Bool.true_or, Bool.or_true, Bool.false_or, Bool.or_false, Bool.not_true, Bool.not_false, eq_self, if_true, if_false, ite_true, ite_false, Bool.false_eq_true, reduceCtorEq, not_false_eq_true])]; rfl⟩ dX12_comes_155 hlk
set_option maxHeartbeats 4000000 in
set_option maxRecDepth 100000 in
theorem c_M_isAlike {l : Launch} {D : va_G} {cy : Nat → ClassId} {B0 : Nat} {ix : Nat → Nat} {S : ST} {I : Int → Bool} {aM qM : Int → Int64} {tM : Int} {G : gF} (k : Int) (u : Int) (c : Int) (v : Int) (nm : Int) (h : Int) (rl : Bool) (d : Int) (st : Bool) (hk : 0 ≤ k ∧ k ≤ 59) (hu : rI u) (hc : rI c) (hv : rI v) (hnm : rI nm) (hh : rI h) (hd : rI d) (hwf : wf S) : gM l yX12_isAlike vX12_isAlike 0 0 D cy B0 [.ref (ix 100), .int (iI k), .int (iI u), .int (iI c), .int (iI v), .int (iI nm), .int (iI h), .int (iI (bI rl)), .int (iI d), .int (iI (bI st))] (mW cy ix S (mX I aM qM tM) G) (fun r g => r = some (.int (iI (bI (sAlk S k u c v nm h rl d st)))) ∧ g = mW cy ix S (mX I aM qM tM) G) 0 0 := by
  refine g_start (cc := cX12_isAlike) (maxL := 10) (ret := (some .boolean)) (by decide) rfl (Nat.le_of_ble_eq_true rfl) ?_
  intro p_ e_ s_ m_ be_ me_ co_ ls H locs K hr hlk hnm hK hW hl
  have hin : ∀ w ∈ wsX120, w ∈ vX12_isAlike := wsM_cls
  obtain ⟨hx, hb, hml, hown, hts⟩ := id K
  have hl : lv_has ls 10 [(0, .ref (ix 100)), (1, .int (iI (k))), (2, .int (iI (u))), (3, .int (iI (c))), (4, .int (iI (v))), (5, .int (iI (nm))), (6, .int (iI (h))), (7, .int (iI (bI (rl)))), (8, .int (iI (d))), (9, .int (iI (bI (st))))] := hl
  refine lv_aload_n hx hb dX12_isAlike_0 rfl (lv_at hl 0 rfl) ?_
  refine mr_get K hK hW hin 10 (by decide) lM_to (v := .ref (ix 110)) rfl dX12_isAlike_1 ?_
  refine lv_iload_n hx hb dX12_isAlike_4 rfl (lv_at hl 1 rfl) ?_
  refine mr_iald K hK hW 10 (by decide) rfl (n := 60) rfl rfl ⟨by omega, by omega⟩ (v := S.1 10 (k)) rfl dX12_isAlike_5 ?_
  have w_1 := wf_10 hwf (k)
  refine lv_iload_n hx hb dX12_isAlike_6 rfl (lv_at hl 2 rfl) ?_
  refine xi_icmp_ne (tgt := 90) hx hb ⟨by omega, by omega⟩ ⟨by omega, by omega⟩ dX12_isAlike_7 (by decide) (fun c_2 => ?_) (fun c_2 => ?_)
  · refine xi_iconst hx hb dX12_isAlike_90 ?_
    exact g_zret hx hb hr (Or.inl rfl) hW ⟨congrArg (fun z => some (Value.int (iI z))) (bI_f (by simp only [sAlk, c_2, decide_true, decide_false, Bool.true_and, Bool.and_true, Bool.false_and, Bool.and_false, Bool.true_or, Bool.or_true, Bool.false_or, Bool.or_false, Bool.not_true, Bool.not_false, eq_self])), rfl⟩ dX12_isAlike_91 hlk
  · refine lv_aload_n hx hb dX12_isAlike_10 rfl (lv_at hl 0 rfl) ?_
    refine mr_get K hK hW hin 11 (by decide) lM_currency (v := .ref (ix 111)) rfl dX12_isAlike_11 ?_
    refine lv_iload_n hx hb dX12_isAlike_14 rfl (lv_at hl 1 rfl) ?_
    refine mr_iald K hK hW 11 (by decide) rfl (n := 60) rfl rfl ⟨by omega, by omega⟩ (v := S.1 11 (k)) rfl dX12_isAlike_15 ?_
    have w_3 := wf_11 hwf (k)
    refine lv_iload_n hx hb dX12_isAlike_16 rfl (lv_at hl 3 rfl) ?_
    refine xi_icmp_ne (tgt := 90) hx hb ⟨by omega, by omega⟩ ⟨by omega, by omega⟩ dX12_isAlike_17 (by decide) (fun c_4 => ?_) (fun c_4 => ?_)
    · refine xi_iconst hx hb dX12_isAlike_90 ?_
      exact g_zret hx hb hr (Or.inl rfl) hW ⟨congrArg (fun z => some (Value.int (iI z))) (bI_f (by simp only [sAlk, c_2, c_4, decide_true, decide_false, Bool.true_and, Bool.and_true, Bool.false_and, Bool.and_false, Bool.true_or, Bool.or_true, Bool.false_or, Bool.or_false, Bool.not_true, Bool.not_false, eq_self])), rfl⟩ dX12_isAlike_91 hlk
    · refine lv_aload_n hx hb dX12_isAlike_20 rfl (lv_at hl 0 rfl) ?_
      refine mr_get K hK hW hin 12 (by decide) lM_amount (v := .ref (ix 112)) rfl dX12_isAlike_21 ?_
      refine lv_iload_n hx hb dX12_isAlike_24 rfl (lv_at hl 1 rfl) ?_
      refine mr_iald K hK hW 12 (by decide) rfl (n := 60) rfl rfl ⟨by omega, by omega⟩ (v := S.1 12 (k)) rfl dX12_isAlike_25 ?_
      have w_5 := wf_12 hwf (k)
      refine lv_iload hx hb dX12_isAlike_26 (lv_at hl 4 rfl) ?_
      refine xi_icmp_ne (tgt := 90) hx hb ⟨by omega, by omega⟩ ⟨by omega, by omega⟩ dX12_isAlike_28 (by decide) (fun c_6 => ?_) (fun c_6 => ?_)
      · refine xi_iconst hx hb dX12_isAlike_90 ?_
        exact g_zret hx hb hr (Or.inl rfl) hW ⟨congrArg (fun z => some (Value.int (iI z))) (bI_f (by simp only [sAlk, c_2, c_4, c_6, decide_true, decide_false, Bool.true_and, Bool.and_true, Bool.false_and, Bool.and_false, Bool.true_or, Bool.or_true, Bool.false_or, Bool.or_false, Bool.not_true, Bool.not_false, eq_self])), rfl⟩ dX12_isAlike_91 hlk
      · refine lv_aload_n hx hb dX12_isAlike_31 rfl (lv_at hl 0 rfl) ?_
        refine mr_get K hK hW hin 13 (by decide) lM_payee (v := .ref (ix 113)) rfl dX12_isAlike_32 ?_
        refine lv_iload_n hx hb dX12_isAlike_35 rfl (lv_at hl 1 rfl) ?_
        refine mr_iald K hK hW 13 (by decide) rfl (n := 60) rfl rfl ⟨by omega, by omega⟩ (v := S.1 13 (k)) rfl dX12_isAlike_36 ?_
        have w_7 := wf_13 hwf (k)
        refine lv_iload hx hb dX12_isAlike_37 (lv_at hl 5 rfl) ?_
        refine xi_icmp_ne (tgt := 90) hx hb ⟨by omega, by omega⟩ ⟨by omega, by omega⟩ dX12_isAlike_39 (by decide) (fun c_8 => ?_) (fun c_8 => ?_)
        · refine xi_iconst hx hb dX12_isAlike_90 ?_
          exact g_zret hx hb hr (Or.inl rfl) hW ⟨congrArg (fun z => some (Value.int (iI z))) (bI_f (by simp only [sAlk, c_2, c_4, c_6, c_8, decide_true, decide_false, Bool.true_and, Bool.and_true, Bool.false_and, Bool.and_false, Bool.true_or, Bool.or_true, Bool.false_or, Bool.or_false, Bool.not_true, Bool.not_false, eq_self])), rfl⟩ dX12_isAlike_91 hlk
        · refine lv_aload_n hx hb dX12_isAlike_42 rfl (lv_at hl 0 rfl) ?_
          refine mr_get K hK hW hin 14 (by decide) lM_rank (v := .ref (ix 114)) rfl dX12_isAlike_43 ?_
          refine lv_iload_n hx hb dX12_isAlike_46 rfl (lv_at hl 1 rfl) ?_
          refine mr_iald K hK hW 14 (by decide) rfl (n := 60) rfl rfl ⟨by omega, by omega⟩ (v := S.1 14 (k)) rfl dX12_isAlike_47 ?_
          have w_9 := wf_14 hwf (k)
          refine lv_iload hx hb dX12_isAlike_48 (lv_at hl 6 rfl) ?_
          refine xi_icmp_ne (tgt := 90) hx hb ⟨by omega, by omega⟩ ⟨by omega, by omega⟩ dX12_isAlike_50 (by decide) (fun c_10 => ?_) (fun c_10 => ?_)
          · refine xi_iconst hx hb dX12_isAlike_90 ?_
            exact g_zret hx hb hr (Or.inl rfl) hW ⟨congrArg (fun z => some (Value.int (iI z))) (bI_f (by simp only [sAlk, c_2, c_4, c_6, c_8, c_10, decide_true, decide_false, Bool.true_and, Bool.and_true, Bool.false_and, Bool.and_false, Bool.true_or, Bool.or_true, Bool.false_or, Bool.or_false, Bool.not_true, Bool.not_false, eq_self])), rfl⟩ dX12_isAlike_91 hlk
          · refine lv_aload_n hx hb dX12_isAlike_53 rfl (lv_at hl 0 rfl) ?_
            refine mr_get K hK hW hin 15 (by decide) lM_isReal (v := .ref (ix 115)) rfl dX12_isAlike_54 ?_
            refine lv_iload_n hx hb dX12_isAlike_57 rfl (lv_at hl 1 rfl) ?_
            refine mr_zald K hK hW 15 (by decide) rfl (n := 60) rfl rfl ⟨by omega, by omega⟩ (v := S.1 15 (k)) rfl dX12_isAlike_58 ?_
            have w_11 := wf_15 hwf (k)
            refine lv_iload hx hb dX12_isAlike_59 (lv_at hl 7 rfl) ?_
            refine xi_icmp_ne (tgt := 90) hx hb ⟨by omega, by omega⟩ (bI_r _) dX12_isAlike_61 (by decide) (fun c_12 => ?_) (fun c_12 => ?_)
            · refine xi_iconst hx hb dX12_isAlike_90 ?_
              exact g_zret hx hb hr (Or.inl rfl) hW ⟨congrArg (fun z => some (Value.int (iI z))) (bI_f (by simp only [sAlk, c_2, c_4, c_6, c_8, c_10, c_12, decide_true, decide_false, Bool.true_and, Bool.and_true, Bool.false_and, Bool.and_false, Bool.true_or, Bool.or_true, Bool.false_or, Bool.or_false, Bool.not_true, Bool.not_false, eq_self])), rfl⟩ dX12_isAlike_91 hlk
            · refine lv_aload_n hx hb dX12_isAlike_64 rfl (lv_at hl 0 rfl) ?_
              refine mr_get K hK hW hin 16 (by decide) lM_day (v := .ref (ix 116)) rfl dX12_isAlike_65 ?_
              refine lv_iload_n hx hb dX12_isAlike_68 rfl (lv_at hl 1 rfl) ?_
              refine mr_iald K hK hW 16 (by decide) rfl (n := 60) rfl rfl ⟨by omega, by omega⟩ (v := S.1 16 (k)) rfl dX12_isAlike_69 ?_
              have w_13 := wf_16 hwf (k)
              refine lv_iload hx hb dX12_isAlike_70 (lv_at hl 8 rfl) ?_
              refine xi_icmp_ne (tgt := 90) hx hb ⟨by omega, by omega⟩ ⟨by omega, by omega⟩ dX12_isAlike_72 (by decide) (fun c_14 => ?_) (fun c_14 => ?_)
              · refine xi_iconst hx hb dX12_isAlike_90 ?_
                exact g_zret hx hb hr (Or.inl rfl) hW ⟨congrArg (fun z => some (Value.int (iI z))) (bI_f (by simp only [sAlk, c_2, c_4, c_6, c_8, c_10, c_12, c_14, decide_true, decide_false, Bool.true_and, Bool.and_true, Bool.false_and, Bool.and_false, Bool.true_or, Bool.or_true, Bool.false_or, Bool.or_false, Bool.not_true, Bool.not_false, eq_self])), rfl⟩ dX12_isAlike_91 hlk
              · refine lv_aload_n hx hb dX12_isAlike_75 rfl (lv_at hl 0 rfl) ?_
                refine mr_get K hK hW hin 17 (by decide) lM_stays (v := .ref (ix 117)) rfl dX12_isAlike_76 ?_
                refine lv_iload_n hx hb dX12_isAlike_79 rfl (lv_at hl 1 rfl) ?_
                refine mr_zald K hK hW 17 (by decide) rfl (n := 60) rfl rfl ⟨by omega, by omega⟩ (v := S.1 17 (k)) rfl dX12_isAlike_80 ?_
                have w_15 := wf_17 hwf (k)
                refine lv_iload hx hb dX12_isAlike_81 (lv_at hl 9 rfl) ?_
                refine xi_icmp_ne (tgt := 90) hx hb ⟨by omega, by omega⟩ (bI_r _) dX12_isAlike_83 (by decide) (fun c_16 => ?_) (fun c_16 => ?_)
                · refine xi_iconst hx hb dX12_isAlike_90 ?_
                  exact g_zret hx hb hr (Or.inl rfl) hW ⟨congrArg (fun z => some (Value.int (iI z))) (bI_f (by simp only [sAlk, c_2, c_4, c_6, c_8, c_10, c_12, c_14, c_16, decide_true, decide_false, Bool.true_and, Bool.and_true, Bool.false_and, Bool.and_false, Bool.true_or, Bool.or_true, Bool.false_or, Bool.or_false, Bool.not_true, Bool.not_false, eq_self])), rfl⟩ dX12_isAlike_91 hlk
                · refine xi_iconst hx hb dX12_isAlike_86 ?_
                  refine lv_goto (tgt := 91) hx hb dX12_isAlike_87 (by decide) ?_
                  exact g_zret hx hb hr (Or.inr rfl) hW ⟨congrArg (fun z => some (Value.int (iI z))) (bI_t (by simp only [sAlk, c_2, c_4, c_6, c_8, c_10, c_12, c_14, c_16, decide_true, decide_false, Bool.true_and, Bool.and_true, Bool.false_and, Bool.and_false, Bool.true_or, Bool.or_true, Bool.false_or, Bool.or_false, Bool.not_true, Bool.not_false, eq_self])), rfl⟩ dX12_isAlike_91 hlk
set_option maxHeartbeats 4000000 in
set_option maxRecDepth 100000 in
theorem c_M_canJoin {l : Launch} {D : va_G} {cy : Nat → ClassId} {B0 : Nat} {ix : Nat → Nat} {S : ST} {I : Int → Bool} {aM qM : Int → Int64} {tM : Int} {G : gF} (k : Int) (u : Int) (hk : 0 ≤ k ∧ k ≤ 59) (hu : 0 ≤ u ∧ u ≤ 59) (hwf : wf S) : gM l yX12_canJoin vX12_canJoin 1 21 D cy B0 [.ref (ix 100), .int (iI k), .int (iI u)] (mW cy ix S (mX I aM qM tM) G) (fun r g => r = some (.int (iI (bI (sJoin S k u)))) ∧ g = mW cy ix S (mX I aM qM tM) G) 0 0 := by
  refine g_start (cc := cX12_canJoin) (maxL := 4) (ret := (some .boolean)) (by decide) rfl (Nat.le_of_ble_eq_true rfl) ?_
  intro p_ e_ s_ m_ be_ me_ co_ ls H locs K hr hlk hnm hK hW hl
  have hin : ∀ w ∈ wsX120, w ∈ vX12_canJoin := wsM_cls
  obtain ⟨hx, hb, hml, hown, hts⟩ := id K
  have hl : lv_has ls 4 [(0, .ref (ix 100)), (1, .int (iI (k))), (2, .int (iI (u)))] := hl
  have j_1 : ∀ (zJ : Bool) (H : Heap) (locs : List Loc), zJ = (sJ1 S k u) → gW D B0 s_ (mW cy ix S (mX (I) (aM) (qM) (tM)) G) H locs → W p_ l e_ { frames := 1, cells := 0, slots := 0, locals := 21 } s_ m_ ([.ref (ix 100), .int (iI k), .int (iI u)] : List Value).toArray be_ me_ co_ H locs 0 0 (MQ be_ (gQ D B0 (fun (r : Option Value) (g : gF) => r = some (.int (iI (bI (sJoin S k u)))) ∧ g = mW cy ix S (mX I aM qM tM) G)) ([.ref (ix 100), .int (iI k), .int (iI u)] : List Value).toArray s_ 0 0 (fun q : Nat => B0 ≤ q)) (F0 m_ 59 ls [.int (iI (bI (zJ)))]) := by
    intro zJ H locs hzJ hW
    subst hzJ
    refine lv_istore_n (lv' := [(3, .int (iI (bI (sJ1 S k u)))), (0, .ref (ix 100)), (1, .int (iI (k))), (2, .int (iI (u)))]) hx hb dX12_canJoin_59 rfl hl (by decide) rfl (fun ls hl => ?_)
    refine lv_iload_n hx hb dX12_canJoin_60 rfl (lv_at hl 0 rfl) ?_
    refine xi_ifb_eq (tgt := 118) hx hb dX12_canJoin_61 (by decide) (fun c_2 => ?_) (fun c_2 => ?_)
    · refine xi_iconst hx hb dX12_canJoin_118 ?_
      exact g_zret hx hb hr (Or.inl rfl) hW ⟨congrArg (fun z => some (Value.int (iI z))) (bI_f (by simp only [sJoin, c_2, decide_true, decide_false, Bool.true_and, Bool.and_true, Bool.false_and, Bool.and_false, Bool.true_or, Bool.or_true, Bool.false_or, Bool.or_false, Bool.not_true, Bool.not_false, eq_self])), rfl⟩ dX12_canJoin_119 hlk
    · refine lv_aload_n hx hb dX12_canJoin_64 rfl (lv_at hl 1 rfl) ?_
      refine mr_get K hK hW hin 9 (by decide) lM_from (v := .ref (ix 109)) rfl dX12_canJoin_65 ?_
      refine lv_iload_n hx hb dX12_canJoin_68 rfl (lv_at hl 2 rfl) ?_
      refine mr_iald K hK hW 9 (by decide) rfl (n := 60) rfl rfl ⟨by omega, by omega⟩ (v := S.1 9 (k)) rfl dX12_canJoin_69 ?_
      have w_3 := wf_9 hwf (k)
      refine lv_aload_n hx hb dX12_canJoin_70 rfl (lv_at hl 1 rfl) ?_
      refine mr_get K hK hW hin 10 (by decide) lM_to (v := .ref (ix 110)) rfl dX12_canJoin_71 ?_
      refine lv_iload_n hx hb dX12_canJoin_74 rfl (lv_at hl 3 rfl) ?_
      refine mr_iald K hK hW 10 (by decide) rfl (n := 60) rfl rfl ⟨by omega, by omega⟩ (v := S.1 10 (u)) rfl dX12_canJoin_75 ?_
      have w_4 := wf_10 hwf (u)
      refine xi_icmp_ne (tgt := 118) hx hb ⟨by omega, by omega⟩ ⟨by omega, by omega⟩ dX12_canJoin_76 (by decide) (fun c_5 => ?_) (fun c_5 => ?_)
      · refine xi_iconst hx hb dX12_canJoin_118 ?_
        exact g_zret hx hb hr (Or.inl rfl) hW ⟨congrArg (fun z => some (Value.int (iI z))) (bI_f (by simp only [sJoin, c_2, c_5, decide_true, decide_false, Bool.true_and, Bool.and_true, Bool.false_and, Bool.and_false, Bool.true_or, Bool.or_true, Bool.false_or, Bool.or_false, Bool.not_true, Bool.not_false, eq_self])), rfl⟩ dX12_canJoin_119 hlk
      · refine lv_aload_n hx hb dX12_canJoin_79 rfl (lv_at hl 1 rfl) ?_
        refine mr_get K hK hW hin 10 (by decide) lM_to (v := .ref (ix 110)) rfl dX12_canJoin_80 ?_
        refine lv_iload_n hx hb dX12_canJoin_83 rfl (lv_at hl 2 rfl) ?_
        refine mr_iald K hK hW 10 (by decide) rfl (n := 60) rfl rfl ⟨by omega, by omega⟩ (v := S.1 10 (k)) rfl dX12_canJoin_84 ?_
        have w_6 := wf_10 hwf (k)
        refine lv_aload_n hx hb dX12_canJoin_85 rfl (lv_at hl 1 rfl) ?_
        refine mr_get K hK hW hin 9 (by decide) lM_from (v := .ref (ix 109)) rfl dX12_canJoin_86 ?_
        refine lv_iload_n hx hb dX12_canJoin_89 rfl (lv_at hl 3 rfl) ?_
        refine mr_iald K hK hW 9 (by decide) rfl (n := 60) rfl rfl ⟨by omega, by omega⟩ (v := S.1 9 (u)) rfl dX12_canJoin_90 ?_
        have w_7 := wf_9 hwf (u)
        refine xi_icmp_ne (tgt := 118) hx hb ⟨by omega, by omega⟩ ⟨by omega, by omega⟩ dX12_canJoin_91 (by decide) (fun c_8 => ?_) (fun c_8 => ?_)
        · refine xi_iconst hx hb dX12_canJoin_118 ?_
          exact g_zret hx hb hr (Or.inl rfl) hW ⟨congrArg (fun z => some (Value.int (iI z))) (bI_f (by simp only [sJoin, c_2, c_5, c_8, decide_true, decide_false, Bool.true_and, Bool.and_true, Bool.false_and, Bool.and_false, Bool.true_or, Bool.or_true, Bool.false_or, Bool.or_false, Bool.not_true, Bool.not_false, eq_self])), rfl⟩ dX12_canJoin_119 hlk
        · refine lv_aload_n hx hb dX12_canJoin_94 rfl (lv_at hl 1 rfl) ?_
          refine mr_get K hK hW hin 21 (by decide) lM_leg (v := .ref (ix 121)) rfl dX12_canJoin_95 ?_
          refine lv_iload_n hx hb dX12_canJoin_98 rfl (lv_at hl 2 rfl) ?_
          refine mr_iald K hK hW 21 (by decide) rfl (n := 60) rfl rfl ⟨by omega, by omega⟩ (v := S.1 21 (k)) rfl dX12_canJoin_99 ?_
          have w_9 := wf_21 hwf (k)
          refine xi_iconst hx hb dX12_canJoin_100 ?_
          refine xi_icmp_ne (tgt := 118) hx hb ⟨by omega, by omega⟩ ⟨by omega, by omega⟩ dX12_canJoin_101 (by decide) (fun c_10 => ?_) (fun c_10 => ?_)
          · refine xi_iconst hx hb dX12_canJoin_118 ?_
            exact g_zret hx hb hr (Or.inl rfl) hW ⟨congrArg (fun z => some (Value.int (iI z))) (bI_f (by simp only [sJoin, c_2, c_5, c_8, c_10, decide_true, decide_false, Bool.true_and, Bool.and_true, Bool.false_and, Bool.and_false, Bool.true_or, Bool.or_true, Bool.false_or, Bool.or_false, Bool.not_true, Bool.not_false, eq_self])), rfl⟩ dX12_canJoin_119 hlk
          · refine lv_aload_n hx hb dX12_canJoin_104 rfl (lv_at hl 1 rfl) ?_
            refine mr_get K hK hW hin 21 (by decide) lM_leg (v := .ref (ix 121)) rfl dX12_canJoin_105 ?_
            refine lv_iload_n hx hb dX12_canJoin_108 rfl (lv_at hl 3 rfl) ?_
            refine mr_iald K hK hW 21 (by decide) rfl (n := 60) rfl rfl ⟨by omega, by omega⟩ (v := S.1 21 (u)) rfl dX12_canJoin_109 ?_
            have w_11 := wf_21 hwf (u)
            refine xi_iconst hx hb dX12_canJoin_110 ?_
            refine xi_icmp_ne (tgt := 118) hx hb ⟨by omega, by omega⟩ ⟨by omega, by omega⟩ dX12_canJoin_111 (by decide) (fun c_12 => ?_) (fun c_12 => ?_)
            · refine xi_iconst hx hb dX12_canJoin_118 ?_
              exact g_zret hx hb hr (Or.inl rfl) hW ⟨congrArg (fun z => some (Value.int (iI z))) (bI_f (by simp only [sJoin, c_2, c_5, c_8, c_10, c_12, decide_true, decide_false, Bool.true_and, Bool.and_true, Bool.false_and, Bool.and_false, Bool.true_or, Bool.or_true, Bool.false_or, Bool.or_false, Bool.not_true, Bool.not_false, eq_self])), rfl⟩ dX12_canJoin_119 hlk
            · refine xi_iconst hx hb dX12_canJoin_114 ?_
              refine lv_goto (tgt := 119) hx hb dX12_canJoin_115 (by decide) ?_
              exact g_zret hx hb hr (Or.inr rfl) hW ⟨congrArg (fun z => some (Value.int (iI z))) (bI_t (by simp only [sJoin, c_2, c_5, c_8, c_10, c_12, decide_true, decide_false, Bool.true_and, Bool.and_true, Bool.false_and, Bool.and_false, Bool.true_or, Bool.or_true, Bool.false_or, Bool.or_false, Bool.not_true, Bool.not_false, eq_self])), rfl⟩ dX12_canJoin_119 hlk
  refine lv_iload_n hx hb dX12_canJoin_0 rfl (lv_at hl 1 rfl) ?_
  refine lv_iload_n hx hb dX12_canJoin_1 rfl (lv_at hl 2 rfl) ?_
  refine xi_icmp_eq (tgt := 58) hx hb ⟨by omega, by omega⟩ ⟨by omega, by omega⟩ dX12_canJoin_2 (by decide) (fun c_13 => ?_) (fun c_13 => ?_)
  · refine xi_iconst hx hb dX12_canJoin_58 ?_
    exact xi_eq (z' := bI (sJ1 S k u)) (bI_f (by simp only [sJ1, c_13, decide_true, decide_false, Bool.true_and, Bool.and_true, Bool.false_and, Bool.and_false, Bool.true_or, Bool.or_true, Bool.false_or, Bool.or_false, Bool.not_true, Bool.not_false, eq_self])) (j_1 _ _ _ rfl hW)
  · refine lv_aload_n hx hb dX12_canJoin_5 rfl (lv_at hl 0 rfl) ?_
    refine lv_iload_n hx hb dX12_canJoin_6 rfl (lv_at hl 1 rfl) ?_
    refine g_callV (i := 0) (As := [.int (iI (k))]) (rest := []) K (c_M_ends (k) ⟨by omega, by omega⟩ hwf) (cwV 1 hts gM_X12_ends rfl rfl rfl (by decide +kernel) ⟨Nat.le_of_ble_eq_true rfl, Nat.le_of_ble_eq_true rfl⟩) hK hW (mW_0 _ _ _ _ _) rfl rfl hl.1 rfl (Nat.le_of_ble_eq_true rfl) dX12_canJoin_7 ⟨Nat.le_refl _, Nat.le_refl _⟩ (fun v_ f_ H locs hp hW => ?_)
    obtain ⟨hpv, hpe⟩ := hp
    rw [hpe] at hW
    have hpv : v_ = some (.int (iI (bI (sEnds S (k))))) := hpv
    subst hpv
    refine xi_ifb_ne (tgt := 58) hx hb dX12_canJoin_10 (by decide) (fun c_14 => ?_) (fun c_14 => ?_)
    · refine xi_iconst hx hb dX12_canJoin_58 ?_
      exact xi_eq (z' := bI (sJ1 S k u)) (bI_f (by simp only [sJ1, c_13, c_14, decide_true, decide_false, Bool.true_and, Bool.and_true, Bool.false_and, Bool.and_false, Bool.true_or, Bool.or_true, Bool.false_or, Bool.or_false, Bool.not_true, Bool.not_false, eq_self])) (j_1 _ _ _ rfl hW)
    · refine lv_aload_n hx hb dX12_canJoin_13 rfl (lv_at hl 0 rfl) ?_
      refine lv_iload_n hx hb dX12_canJoin_14 rfl (lv_at hl 2 rfl) ?_
      refine g_callV (i := 0) (As := [.int (iI (u))]) (rest := []) K (c_M_ends (u) ⟨by omega, by omega⟩ hwf) (cwV 1 hts gM_X12_ends rfl rfl rfl (by decide +kernel) ⟨Nat.le_of_ble_eq_true rfl, Nat.le_of_ble_eq_true rfl⟩) hK hW (mW_0 _ _ _ _ _) rfl rfl hl.1 rfl (Nat.le_of_ble_eq_true rfl) dX12_canJoin_15 ⟨Nat.le_refl _, Nat.le_refl _⟩ (fun v_ f_ H locs hp hW => ?_)
      obtain ⟨hpv, hpe⟩ := hp
      rw [hpe] at hW
      have hpv : v_ = some (.int (iI (bI (sEnds S (u))))) := hpv
      subst hpv
      refine xi_ifb_ne (tgt := 58) hx hb dX12_canJoin_18 (by decide) (fun c_15 => ?_) (fun c_15 => ?_)
      · refine xi_iconst hx hb dX12_canJoin_58 ?_
        exact xi_eq (z' := bI (sJ1 S k u)) (bI_f (by simp only [sJ1, c_13, c_14, c_15, decide_true, decide_false, Bool.true_and, Bool.and_true, Bool.false_and, Bool.and_false, Bool.true_or, Bool.or_true, Bool.false_or, Bool.or_false, Bool.not_true, Bool.not_false, eq_self])) (j_1 _ _ _ rfl hW)
      · refine lv_aload_n hx hb dX12_canJoin_21 rfl (lv_at hl 0 rfl) ?_
        refine mr_get K hK hW hin 15 (by decide) lM_isReal (v := .ref (ix 115)) rfl dX12_canJoin_22 ?_
        refine lv_iload_n hx hb dX12_canJoin_25 rfl (lv_at hl 1 rfl) ?_
        refine mr_zald K hK hW 15 (by decide) rfl (n := 60) rfl rfl ⟨by omega, by omega⟩ (v := S.1 15 (k)) rfl dX12_canJoin_26 ?_
        have w_16 := wf_15 hwf (k)
        refine xi_if_eq (tgt := 58) hx hb ⟨by omega, by omega⟩ dX12_canJoin_27 (by decide) (fun c_17 => ?_) (fun c_17 => ?_)
        · refine xi_iconst hx hb dX12_canJoin_58 ?_
          exact xi_eq (z' := bI (sJ1 S k u)) (bI_f (by simp only [sJ1, c_13, c_14, c_15, c_17, decide_true, decide_false, Bool.true_and, Bool.and_true, Bool.false_and, Bool.and_false, Bool.true_or, Bool.or_true, Bool.false_or, Bool.or_false, Bool.not_true, Bool.not_false, eq_self])) (j_1 _ _ _ rfl hW)
        · refine lv_aload_n hx hb dX12_canJoin_30 rfl (lv_at hl 0 rfl) ?_
          refine mr_get K hK hW hin 15 (by decide) lM_isReal (v := .ref (ix 115)) rfl dX12_canJoin_31 ?_
          refine lv_iload_n hx hb dX12_canJoin_34 rfl (lv_at hl 2 rfl) ?_
          refine mr_zald K hK hW 15 (by decide) rfl (n := 60) rfl rfl ⟨by omega, by omega⟩ (v := S.1 15 (u)) rfl dX12_canJoin_35 ?_
          have w_18 := wf_15 hwf (u)
          refine xi_if_eq (tgt := 58) hx hb ⟨by omega, by omega⟩ dX12_canJoin_36 (by decide) (fun c_19 => ?_) (fun c_19 => ?_)
          · refine xi_iconst hx hb dX12_canJoin_58 ?_
            exact xi_eq (z' := bI (sJ1 S k u)) (bI_f (by simp only [sJ1, c_13, c_14, c_15, c_17, c_19, decide_true, decide_false, Bool.true_and, Bool.and_true, Bool.false_and, Bool.and_false, Bool.true_or, Bool.or_true, Bool.false_or, Bool.or_false, Bool.not_true, Bool.not_false, eq_self])) (j_1 _ _ _ rfl hW)
          · refine lv_aload_n hx hb dX12_canJoin_39 rfl (lv_at hl 0 rfl) ?_
            refine mr_get K hK hW hin 11 (by decide) lM_currency (v := .ref (ix 111)) rfl dX12_canJoin_40 ?_
            refine lv_iload_n hx hb dX12_canJoin_43 rfl (lv_at hl 1 rfl) ?_
            refine mr_iald K hK hW 11 (by decide) rfl (n := 60) rfl rfl ⟨by omega, by omega⟩ (v := S.1 11 (k)) rfl dX12_canJoin_44 ?_
            have w_20 := wf_11 hwf (k)
            refine lv_aload_n hx hb dX12_canJoin_45 rfl (lv_at hl 0 rfl) ?_
            refine mr_get K hK hW hin 11 (by decide) lM_currency (v := .ref (ix 111)) rfl dX12_canJoin_46 ?_
            refine lv_iload_n hx hb dX12_canJoin_49 rfl (lv_at hl 2 rfl) ?_
            refine mr_iald K hK hW 11 (by decide) rfl (n := 60) rfl rfl ⟨by omega, by omega⟩ (v := S.1 11 (u)) rfl dX12_canJoin_50 ?_
            have w_21 := wf_11 hwf (u)
            refine xi_icmp_eq (tgt := 58) hx hb ⟨by omega, by omega⟩ ⟨by omega, by omega⟩ dX12_canJoin_51 (by decide) (fun c_22 => ?_) (fun c_22 => ?_)
            · refine xi_iconst hx hb dX12_canJoin_58 ?_
              exact xi_eq (z' := bI (sJ1 S k u)) (bI_f (by simp only [sJ1, c_13, c_14, c_15, c_17, c_19, c_22, decide_true, decide_false, Bool.true_and, Bool.and_true, Bool.false_and, Bool.and_false, Bool.true_or, Bool.or_true, Bool.false_or, Bool.or_false, Bool.not_true, Bool.not_false, eq_self])) (j_1 _ _ _ rfl hW)
            · refine xi_iconst hx hb dX12_canJoin_54 ?_
              refine lv_goto (tgt := 59) hx hb dX12_canJoin_55 (by decide) ?_
              exact xi_eq (z' := bI (sJ1 S k u)) (bI_t (by simp only [sJ1, c_13, c_14, c_15, c_17, c_19, c_22, decide_true, decide_false, Bool.true_and, Bool.and_true, Bool.false_and, Bool.and_false, Bool.true_or, Bool.or_true, Bool.false_or, Bool.or_false, Bool.not_true, Bool.not_false, eq_self])) (j_1 _ _ _ rfl hW)
set_option maxHeartbeats 4000000 in
set_option maxRecDepth 100000 in
theorem c_M_returns {l : Launch} {D : va_G} {cy : Nat → ClassId} {B0 : Nat} {ix : Nat → Nat} {S : ST} {I : Int → Bool} {aM qM : Int → Int64} {tM : Int} {G : gF} (k : Int) (hk : 0 ≤ k ∧ k ≤ 59) (hwf : wf S) : gM l yX12_returns vX12_returns 0 0 D cy B0 [.ref (ix 100), .int (iI k)] (mW cy ix S (mX I aM qM tM) G) (fun r g => r = some (.int (iI (sRetN S k))) ∧ g = mW cy ix (sRet S k) (mX I aM qM tM) G) 0 0 := by
  refine g_start (cc := cX12_returns) (maxL := 3) (ret := (some .int)) (by decide) rfl (Nat.le_of_ble_eq_true rfl) ?_
  intro p_ e_ s_ m_ be_ me_ co_ ls H locs K hr hlk hnm hK hW hl
  have hin : ∀ w ∈ wsX120, w ∈ vX12_returns := wsM_cls
  obtain ⟨hx, hb, hml, hown, hts⟩ := id K
  have hl : lv_has ls 3 [(0, .ref (ix 100)), (1, .int (iI (k)))] := hl
  refine xi_iconst hx hb dX12_returns_0 ?_
  refine lv_istore_n (lv' := [(2, .int (iI (1))), (0, .ref (ix 100)), (1, .int (iI (k)))]) hx hb dX12_returns_1 rfl hl (by decide) rfl (fun ls hl => ?_)
  refine lv_aload_n hx hb dX12_returns_2 rfl (lv_at hl 1 rfl) ?_
  refine mr_get K hK hW hin 18 (by decide) lM_state (v := .ref (ix 118)) rfl dX12_returns_3 ?_
  refine lv_iload_n hx hb dX12_returns_6 rfl (lv_at hl 2 rfl) ?_
  refine xi_iconst hx hb dX12_returns_7 ?_
  refine mr_iast K hK hW 18 (by decide) rfl (n := 60) rfl rfl ⟨by omega, by omega⟩ dX12_returns_8 (fun H locs hW => ?_)
  refine lv_aload_n hx hb dX12_returns_9 rfl (lv_at hl 1 rfl) ?_
  refine mr_get K hK hW hin 21 (by decide) lM_leg (v := .ref (ix 121)) rfl dX12_returns_10 ?_
  refine lv_iload_n hx hb dX12_returns_13 rfl (lv_at hl 2 rfl) ?_
  refine mr_iald K hK hW 21 (by decide) rfl (n := 60) rfl rfl ⟨by omega, by omega⟩ (v := S.1 21 (k)) rfl dX12_returns_14 ?_
  have w_1 := wf_21 hwf (k)
  refine xi_iconst hx hb dX12_returns_15 ?_
  refine xi_icmp_eq (tgt := 49) hx hb ⟨by omega, by omega⟩ ⟨by omega, by omega⟩ dX12_returns_16 (by decide) (fun c_2 => ?_) (fun c_2 => ?_)
  · refine lv_iload_n hx hb dX12_returns_49 rfl (lv_at hl 0 rfl) ?_
    exact g_iret hx hb hr hW ⟨by rw [sRetN, (show sRe1 S k = false by simp only [sRe1, c_2, decide_true, decide_false, Bool.true_and, Bool.and_true, Bool.false_and, Bool.and_false, Bool.true_or, Bool.or_true, Bool.false_or, Bool.or_false, Bool.not_true, Bool.not_false, eq_self])]; rfl, by rw [sRet, (show sRe1 S k = false by simp only [sRe1, c_2, decide_true, decide_false, Bool.true_and, Bool.and_true, Bool.false_and, Bool.and_false, Bool.true_or, Bool.or_true, Bool.false_or, Bool.or_false, Bool.not_true, Bool.not_false, eq_self])]; rfl⟩ dX12_returns_50 hlk
  · refine lv_aload_n hx hb dX12_returns_19 rfl (lv_at hl 1 rfl) ?_
    refine mr_get K hK hW hin 18 (by decide) lM_state (v := .ref (ix 118)) rfl dX12_returns_20 ?_
    refine lv_aload_n hx hb dX12_returns_23 rfl (lv_at hl 1 rfl) ?_
    refine mr_get K hK hW hin 21 (by decide) lM_leg (v := .ref (ix 121)) rfl dX12_returns_24 ?_
    refine lv_iload_n hx hb dX12_returns_27 rfl (lv_at hl 2 rfl) ?_
    refine mr_iald K hK hW 21 (by decide) rfl (n := 60) rfl rfl ⟨by omega, by omega⟩ (v := S.1 21 (k)) rfl dX12_returns_28 ?_
    have w_3 := wf_21 hwf (k)
    refine mr_iald K hK hW 18 (by decide) rfl (n := 60) rfl rfl ⟨by omega, by omega⟩ (v := (pI S 18 (k) (5)).1 18 (S.1 21 (k))) rfl dX12_returns_29 ?_
    have w_4 : (pI S 18 (k) (5)).1 18 (S.1 21 (k)) ≥ -100000000 ∧ (pI S 18 (k) (5)).1 18 (S.1 21 (k)) ≤ 100000000 := by have h := wf_18 (wf_pI (f := 18) hwf (k) (5) (by simp only [rLo, rHi]; omega)) (S.1 21 (k)); exact ⟨by have := h.1; omega, by have := h.2; omega⟩
    refine xi_iconst hx hb dX12_returns_30 ?_
    refine xi_icmp_eq (tgt := 49) hx hb ⟨by omega, by omega⟩ ⟨by omega, by omega⟩ dX12_returns_31 (by decide) (fun c_5 => ?_) (fun c_5 => ?_)
    · refine lv_iload_n hx hb dX12_returns_49 rfl (lv_at hl 0 rfl) ?_
      exact g_iret hx hb hr hW ⟨by rw [sRetN, (show sRe1 S k = false by simp only [sRe1, c_2, c_5, decide_true, decide_false, Bool.true_and, Bool.and_true, Bool.false_and, Bool.and_false, Bool.true_or, Bool.or_true, Bool.false_or, Bool.or_false, Bool.not_true, Bool.not_false, eq_self])]; rfl, by rw [sRet, (show sRe1 S k = false by simp only [sRe1, c_2, c_5, decide_true, decide_false, Bool.true_and, Bool.and_true, Bool.false_and, Bool.and_false, Bool.true_or, Bool.or_true, Bool.false_or, Bool.or_false, Bool.not_true, Bool.not_false, eq_self])]; rfl⟩ dX12_returns_50 hlk
    · refine lv_aload_n hx hb dX12_returns_34 rfl (lv_at hl 1 rfl) ?_
      refine mr_get K hK hW hin 18 (by decide) lM_state (v := .ref (ix 118)) rfl dX12_returns_35 ?_
      refine lv_aload_n hx hb dX12_returns_38 rfl (lv_at hl 1 rfl) ?_
      refine mr_get K hK hW hin 21 (by decide) lM_leg (v := .ref (ix 121)) rfl dX12_returns_39 ?_
      refine lv_iload_n hx hb dX12_returns_42 rfl (lv_at hl 2 rfl) ?_
      refine mr_iald K hK hW 21 (by decide) rfl (n := 60) rfl rfl ⟨by omega, by omega⟩ (v := S.1 21 (k)) rfl dX12_returns_43 ?_
      have w_6 := wf_21 hwf (k)
      refine xi_iconst hx hb dX12_returns_44 ?_
      refine mr_iast K hK hW 18 (by decide) rfl (n := 60) rfl rfl ⟨by omega, by omega⟩ dX12_returns_45 (fun H locs hW => ?_)
      refine xi_iinc (lv' := [(2, .int (iI (1 + 1))), (0, .ref (ix 100)), (1, .int (iI (k)))]) hx hb dX12_returns_46 hl (k := 0) rfl (by decide) rfl (fun ls hl => ?_)
      refine lv_iload_n hx hb dX12_returns_49 rfl (lv_at hl 0 rfl) ?_
      exact g_iret hx hb hr hW ⟨by rw [sRetN, (show sRe1 S k = true by simp only [sRe1, c_2, c_5, decide_true, decide_false, Bool.true_and, Bool.and_true, Bool.false_and, Bool.and_false, Bool.true_or, Bool.or_true, Bool.false_or, Bool.or_false, Bool.not_true, Bool.not_false, eq_self])]; rfl, by rw [sRet, (show sRe1 S k = true by simp only [sRe1, c_2, c_5, decide_true, decide_false, Bool.true_and, Bool.and_true, Bool.false_and, Bool.and_false, Bool.true_or, Bool.or_true, Bool.false_or, Bool.or_false, Bool.not_true, Bool.not_false, eq_self])]; rfl⟩ dX12_returns_50 hlk
set_option maxHeartbeats 4000000 in
set_option maxRecDepth 100000 in
theorem c_M_adviceAt {l : Launch} {D : va_G} {cy : Nat → ClassId} {B0 : Nat} {ix : Nat → Nat} {S : ST} {I : Int → Bool} {aM qM : Int → Int64} {tM : Int} {G : gF} (b : Int) (p : Int) (hb0 : 0 ≤ b ∧ b ≤ 5) (hp0 : 0 ≤ p ∧ p ≤ 60) (hwf : wf S) : gM l yX12_adviceAt vX12_adviceAt 0 0 D cy B0 [.ref (ix 100), .int (iI b), .int (iI p)] (mW cy ix S (mX I aM qM tM) G) (fun r g => r = some (.int (iI (aAt S b p))) ∧ g = mW cy ix S (mX I aM qM tM) G) 0 0 := by
  refine g_start (cc := cX12_adviceAt) (maxL := 5) (ret := (some .int)) (by decide) rfl (Nat.le_of_ble_eq_true rfl) ?_
  intro p_ e_ s_ m_ be_ me_ co_ ls H locs K hr hlk hnm hK hW hl
  have hin : ∀ w ∈ wsX120, w ∈ vX12_adviceAt := wsM_cls
  obtain ⟨hx, hb, hml, hown, hts⟩ := id K
  have hl : lv_has ls 5 [(0, .ref (ix 100)), (1, .int (iI (b))), (2, .int (iI (p)))] := hl
  refine lv_iload_n hx hb dX12_adviceAt_0 rfl (lv_at hl 2 rfl) ?_
  refine lv_istore_n (lv' := [(3, .int (iI (p))), (0, .ref (ix 100)), (1, .int (iI (b))), (2, .int (iI (p)))]) hx hb dX12_adviceAt_1 rfl hl (by decide) rfl (fun ls hl => ?_)
  refine xi_iconst hx hb dX12_adviceAt_2 ?_
  refine lv_istore (lv' := [(4, .int (iI (0))), (3, .int (iI (p))), (0, .ref (ix 100)), (1, .int (iI (b))), (2, .int (iI (p)))]) hx hb dX12_adviceAt_3 hl (by decide) rfl (fun ls hl => ?_)
  refine lp_w2 (Wg := fun (H : Heap) (locs : List Loc) (ls : Array Slot) => W p_ l e_ { frames := 0, cells := 0, slots := 0, locals := 0 } s_ m_ ([.ref (ix 100), .int (iI b), .int (iI p)] : List Value).toArray be_ me_ co_ H locs 0 0 (MQ be_ (gQ D B0 (fun (r : Option Value) (g : gF) => r = some (.int (iI (aAt S b p))) ∧ g = mW cy ix S (mX I aM qM tM) G)) ([.ref (ix 100), .int (iI b), .int (iI p)] : List Value).toArray s_ 0 0 (fun q : Nat => B0 ≤ q)) (F0 m_ 5 ls [])) (fun (k : Int) (le : Int) (H : Heap) (locs : List Loc) (ls : Array Slot) => ((0 ≤ k ∧ k ≤ S.1 27 0) ∧ 0 ≤ le ∧ le = p - (aL S b k.toNat).length) ∧ gW D B0 s_ (mW cy ix S (mX (I) (aM) (qM) (tM)) G) H locs ∧ lv_has ls 5 [(4, .int (iI (k))), (3, .int (iI (le))), (2, .int (iI (p))), (1, .int (iI (b))), (0, .ref (ix 100))]) (fun (k : Int) (le : Int) => (60 - k).toNat) (fun k le H locs ls hI ih_lp_1 => ?_) (0) (p) _ _ _ ⟨⟨⟨by omega, (wf_27 hwf 0).1⟩, by omega, by simp [aL]⟩, hW, lv_sub hl [0, 1, 4, 3, 2] rfl⟩
  obtain ⟨hI_lp_1, hW, hl⟩ := hI
  obtain ⟨hk, hl2, hl3⟩ := hI_lp_1
  refine lv_iload hx hb dX12_adviceAt_5 (lv_at hl 0 rfl) ?_
  refine lv_aload_n hx hb dX12_adviceAt_7 rfl (lv_at hl 4 rfl) ?_
  refine mr_get K hK hW hin 27 (by decide) lM_finals (v := .int (iI (S.1 27 (0)))) rfl dX12_adviceAt_8 ?_
  have w_w_2 := wf_27 hwf 0
  refine xi_icmp_ge (tgt := 51) hx hb ⟨by omega, by omega⟩ ⟨by omega, by omega⟩ dX12_adviceAt_11 (by decide) (fun c_3 => ?_) (fun c_3 => ?_)
  · refine xi_iconst hx hb dX12_adviceAt_51 ?_
    exact g_iret hx hb hr hW ⟨by rw [← aL_miss (p := p) (by rw [show S.1 27 0 = k by omega]; omega)], rfl⟩ dX12_adviceAt_52 hlk
  · refine lv_aload_n hx hb dX12_adviceAt_14 rfl (lv_at hl 4 rfl) ?_
    refine mr_get K hK hW hin 10 (by decide) lM_to (v := .ref (ix 110)) rfl dX12_adviceAt_15 ?_
    refine lv_aload_n hx hb dX12_adviceAt_18 rfl (lv_at hl 4 rfl) ?_
    refine mr_get K hK hW hin 28 (by decide) lM_finished (v := .ref (ix 128)) rfl dX12_adviceAt_19 ?_
    refine lv_iload hx hb dX12_adviceAt_22 (lv_at hl 0 rfl) ?_
    refine mr_iald K hK hW 28 (by decide) rfl (n := 60) rfl rfl ⟨by omega, by omega⟩ (v := S.1 28 (k)) rfl dX12_adviceAt_24 ?_
    have w_4 := wf_28 hwf (k)
    refine mr_iald K hK hW 10 (by decide) rfl (n := 60) rfl rfl ⟨by omega, by omega⟩ (v := S.1 10 (S.1 28 (k))) rfl dX12_adviceAt_25 ?_
    have w_5 := wf_10 hwf (S.1 28 (k))
    refine lv_iload_n hx hb dX12_adviceAt_26 rfl (lv_at hl 3 rfl) ?_
    refine xi_icmp_ne (tgt := 45) hx hb ⟨by omega, by omega⟩ ⟨by omega, by omega⟩ dX12_adviceAt_27 (by decide) (fun c_6 => ?_) (fun c_6 => ?_)
    · refine xi_iinc (lv' := [(4, .int (iI (k + 1))), (3, .int (iI (le))), (2, .int (iI (p))), (1, .int (iI (b))), (0, .ref (ix 100))]) hx hb dX12_adviceAt_45 hl (k := 0) rfl (by decide) rfl (fun ls hl => ?_)
      refine lv_goto (tgt := 5) hx hb dX12_adviceAt_48 (by decide) ?_
      exact ih_lp_1 (k + 1) (le) _ _ _ (by have := wf_27 hwf 0; first | omega | (dsimp only; omega)) ⟨⟨⟨by omega, by omega⟩, by omega, by rw [show (k + 1).toNat = k.toNat + 1 by omega, aL_s, show ((k.toNat : Nat) : Int) = k by omega, if_neg c_6]; simp; omega⟩, hW, lv_sub hl [0, 1, 2, 3, 4] rfl⟩
    · refine lv_iload_n hx hb dX12_adviceAt_30 rfl (lv_at hl 1 rfl) ?_
      refine xi_if_ne (tgt := 42) hx hb ⟨by omega, by omega⟩ dX12_adviceAt_31 (by decide) (fun c_7 => ?_) (fun c_7 => ?_)
      · refine xi_iinc (lv' := [(3, .int (iI (le + (-1)))), (4, .int (iI (k))), (2, .int (iI (p))), (1, .int (iI (b))), (0, .ref (ix 100))]) hx hb dX12_adviceAt_42 hl (k := 1) rfl (by decide) rfl (fun ls hl => ?_)
        refine xi_iinc (lv' := [(4, .int (iI (k + 1))), (3, .int (iI (le + (-1)))), (2, .int (iI (p))), (1, .int (iI (b))), (0, .ref (ix 100))]) hx hb dX12_adviceAt_45 hl (k := 1) rfl (by decide) rfl (fun ls hl => ?_)
        refine lv_goto (tgt := 5) hx hb dX12_adviceAt_48 (by decide) ?_
        exact ih_lp_1 (k + 1) (le + (-1)) _ _ _ (by have := wf_27 hwf 0; first | omega | (dsimp only; omega)) ⟨⟨⟨by omega, by omega⟩, by omega, by rw [show (k + 1).toNat = k.toNat + 1 by omega, aL_s, show ((k.toNat : Nat) : Int) = k by omega, if_pos c_6]; simp; omega⟩, hW, lv_sub hl [0, 1, 2, 3, 4] rfl⟩
      · refine lv_aload_n hx hb dX12_adviceAt_34 rfl (lv_at hl 4 rfl) ?_
        refine mr_get K hK hW hin 28 (by decide) lM_finished (v := .ref (ix 128)) rfl dX12_adviceAt_35 ?_
        refine lv_iload hx hb dX12_adviceAt_38 (lv_at hl 0 rfl) ?_
        refine mr_iald K hK hW 28 (by decide) rfl (n := 60) rfl rfl ⟨by omega, by omega⟩ (v := S.1 28 (k)) rfl dX12_adviceAt_40 ?_
        have w_8 := wf_28 hwf (k)
        exact g_iret hx hb hr hW ⟨by rw [← aL_hit (p := p) ⟨by omega, by omega⟩ c_6 (by omega)], rfl⟩ dX12_adviceAt_41 hlk
