/-! sums over a set -/
theorem l_an (a u : Int64) : a - u + u = a := by rw [Int64.sub_eq_add_neg, Int64.add_assoc, Int64.add_left_neg, Int64.add_zero]
theorem lup2 (a : Int → Int64) (i j : Int) (u : Int64) (x : Int) : lup (lup a i (a i - u)) j (lup a i (a i - u) j + u) x = a x + ((if x = i then -u else 0) + (if x = j then u else 0)) := by
  by_cases hj : x = j
  · subst hj
    by_cases hi : x = i
    · subst hi
      simp [lup, Int64.sub_eq_add_neg, Int64.add_assoc]
    · simp [lup, hi]
  · by_cases hi : x = i
    · subst hi
      simp [lup, hj, Int64.sub_eq_add_neg]
    · simp [lup, hi, hj]
theorem lup2' (a : Int → Int64) (i j : Int) (u : Int64) (x : Int) : lup (lup a i (a i + u)) j (lup a i (a i + u) j - u) x = a x + ((if x = i then u else 0) + (if x = j then -u else 0)) := by
  by_cases hj : x = j
  · subst hj
    by_cases hi : x = i
    · subst hi
      simp [lup, Int64.sub_eq_add_neg, Int64.add_assoc]
    · simp [lup, hi, Int64.sub_eq_add_neg]
  · by_cases hi : x = i
    · subst hi
      simp [lup, hj]
    · simp [lup, hi, hj]
/-- what the account x has more by the payment k; what the pair y has more -/
def dK (S : ST) (k x : Int) : Int64 := (if x = 3 * S.1 9 k + S.1 11 k then -Int64.ofInt (S.1 12 k) else 0) + (if x = 3 * S.1 10 k + S.1 11 k then Int64.ofInt (S.1 12 k) else 0)
def pK (S : ST) (k y : Int) : Int64 := (if y = 3 * (6 * S.1 9 k + S.1 10 k) + S.1 11 k then Int64.ofInt (S.1 12 k) else 0) + (if y = 3 * (6 * S.1 10 k + S.1 9 k) + S.1 11 k then -Int64.ofInt (S.1 12 k) else 0)
def dS (S : ST) (I : Int → Bool) (n : Nat) (x : Int) : Int64 := suL (fun k => if I k = true then dK S k x else 0) n
def pS (S : ST) (I : Int → Bool) (n : Nat) (y : Int) : Int64 := suL (fun k => if I k = true then pK S k y else 0) n
theorem dS_s (S : ST) (I : Int → Bool) (n : Nat) (x : Int) : dS S I (n + 1) x = dS S I n x + (if I n = true then dK S n x else 0) := rfl
theorem pS_s (S : ST) (I : Int → Bool) (n : Nat) (x : Int) : pS S I (n + 1) x = pS S I n x + (if I n = true then pK S n x else 0) := rfl
theorem alB_s (q : Int → Bool) (n : Nat) : alB q (n + 1) = (alB q n && q n) := rfl
def shX (S : ST) (a : Int → Int64) (b c : Int) : Bool := decide (a (3 * b + c) < 0) && decide (S.2 1 (3 * b + c) + a (3 * b + c) < Int64.ofInt (-(S.1 2 (3 * b + c))))
def paX (S : ST) (q : Int → Int64) (b o c : Int) : Bool := decide (0 < q (3 * (6 * b + o) + c)) && !decide (S.1 3 (3 * (6 * b + o) + c) = -1) && decide (Int64.ofInt (S.1 3 (3 * (6 * b + o) + c)) < S.2 4 (3 * (6 * b + o) + c) + q (3 * (6 * b + o) + c))
def fiX (S : ST) (a q : Int → Int64) (c : Int) : Bool := alB (fun b => !shX S a b c && alB (fun o => !paX S q b o c) 6) 6
/-- a payment that may move today -/
def moves (S : ST) (k : Int) : Bool := sOpen S (S.1 11 k) (S.1 0 0) && decide (S.1 5 (S.1 9 k) = 0) && decide (S.1 5 (S.1 10 k) = 0)
def wrkS (S : ST) (I : Int → Bool) : Nat → Bool := alB (fun k => !I k || moves S k)
set_option maxHeartbeats 4000000 in
set_option maxRecDepth 100000 in
theorem c_M_clears {l : Launch} {D : va_G} {cy : Nat → ClassId} {B0 : Nat} {ix : Nat → Nat} {S : ST} {I : Int → Bool} {aM qM : Int → Int64} {tM : Int} {G : gF}   : gM l yX12_clears vX12_clears 0 0 D cy B0 [.ref (ix 100)] (mW cy ix S (mX I aM qM tM) G) (fun r g => r = none ∧ ∃ J : Int → Bool, (∀ j : Int, 0 ≤ j → j < 60 → J j = false) ∧ g = mW cy ix S (mX J aM qM tM) G) 0 0 := by
  refine g_start (cc := cX12_clears) (maxL := 2) (ret := none) (by decide) rfl (Nat.le_of_ble_eq_true rfl) ?_
  intro p_ e_ s_ m_ be_ me_ co_ ls H locs K hr hlk hnm hK hW hl
  have hin : ∀ w ∈ wsX120, w ∈ vX12_clears := wsM_cls
  obtain ⟨hx, hb, hml, hown, hts⟩ := id K
  have hl : lv_has ls 2 [(0, .ref (ix 100))] := hl
  refine xi_iconst hx hb dX12_clears_0 ?_
  refine lv_istore_n (lv' := [(1, .int (iI (0))), (0, .ref (ix 100))]) hx hb dX12_clears_1 rfl hl (by decide) rfl (fun ls hl => ?_)
  refine lp_w2 (Wg := fun (H : Heap) (locs : List Loc) (ls : Array Slot) => W p_ l e_ { frames := 0, cells := 0, slots := 0, locals := 0 } s_ m_ ([.ref (ix 100)] : List Value).toArray be_ me_ co_ H locs 0 0 (MQ be_ (gQ D B0 (fun (r : Option Value) (g : gF) => r = none ∧ ∃ J : Int → Bool, (∀ j : Int, 0 ≤ j → j < 60 → J j = false) ∧ g = mW cy ix S (mX J aM qM tM) G)) ([.ref (ix 100)] : List Value).toArray s_ 0 0 (fun q : Nat => B0 ≤ q)) (F0 m_ 2 ls [])) (fun (k : Int) (J : Int → Bool) (H : Heap) (locs : List Loc) (ls : Array Slot) => ((0 ≤ k ∧ k ≤ 60) ∧ ∀ j : Int, 0 ≤ j → j < k → J j = false) ∧ gW D B0 s_ (mW cy ix S (mX (J) (aM) (qM) (tM)) G) H locs ∧ lv_has ls 2 [(1, .int (iI (k))), (0, .ref (ix 100))]) (fun (k : Int) (J : Int → Bool) => (60 - k).toNat) (fun k J H locs ls hI ih_lp_1 => ?_) (0) (I) _ _ _ ⟨⟨⟨by omega, by omega⟩, fun j h1 h2 => by omega⟩, hW, lv_sub hl [0, 1] rfl⟩
  obtain ⟨hI_lp_1, hW, hl⟩ := hI
  obtain ⟨hk, hJ⟩ := hI_lp_1
  refine lv_iload_n hx hb dX12_clears_2 rfl (lv_at hl 0 rfl) ?_
  refine xi_bipush hx hb dX12_clears_3 (by decide) ?_
  refine xi_icmp_ge (tgt := 21) hx hb ⟨by omega, by omega⟩ ⟨by omega, by omega⟩ dX12_clears_5 (by decide) (fun c_2 => ?_) (fun c_2 => ?_)
  · exact g_vret hx hb hr hW ⟨rfl, J, fun j h1 h2 => hJ j h1 (by omega), rfl⟩ dX12_clears_21 hlk
  · refine lv_aload_n hx hb dX12_clears_8 rfl (lv_at hl 1 rfl) ?_
    refine mr_get K hK hW hin 33 (by decide) lM_isIn (v := .ref (ix 133)) rfl dX12_clears_9 ?_
    refine lv_iload_n hx hb dX12_clears_12 rfl (lv_at hl 0 rfl) ?_
    refine xi_iconst hx hb dX12_clears_13 ?_
    refine mr_zastI K hK hW rfl (v := false) ⟨by omega, by omega⟩ dX12_clears_14 (fun H locs hW => ?_)
    refine xi_iinc (lv' := [(1, .int (iI (k + 1))), (0, .ref (ix 100))]) hx hb dX12_clears_15 hl (k := 0) rfl (by decide) rfl (fun ls hl => ?_)
    refine lv_goto (tgt := 2) hx hb dX12_clears_18 (by decide) ?_
    exact ih_lp_1 (k + 1) (iup J (k) (false)) _ _ _ (by first | omega | (dsimp only; omega)) ⟨⟨⟨by omega, by omega⟩, fun j h1 h2 => by
        by_cases h : j = k
        · rw [h]; exact iup_s _ _ _
        · rw [iup_n _ _ h]; exact hJ j h1 (by omega)⟩, hW, lv_sub hl [0, 1] rfl⟩
set_option maxHeartbeats 4000000 in
set_option maxRecDepth 100000 in
theorem c_M_sums {l : Launch} {D : va_G} {cy : Nat → ClassId} {B0 : Nat} {ix : Nat → Nat} {S : ST} {I : Int → Bool} {aM qM : Int → Int64} {tM : Int} {G : gF}  (hwf : wf S) : gM l yX12_sums vX12_sums 1 22 D cy B0 [.ref (ix 100)] (mW cy ix S (mX I aM qM tM) G) (fun r g => r = none ∧ ∃ a q : Int → Int64, (∀ x : Int, 0 ≤ x → x < 21 → a x = dS S I (S.1 8 0).toNat x) ∧ (∀ x : Int, 0 ≤ x → x < 108 → q x = pS S I (S.1 8 0).toNat x) ∧ g = mW cy ix S (mX I a q tM) G) 0 0 := by
  refine g_start (cc := cX12_sums) (maxL := 2) (ret := none) (by decide) rfl (Nat.le_of_ble_eq_true rfl) ?_
  intro p_ e_ s_ m_ be_ me_ co_ ls H locs K hr hlk hnm hK hW hl
  have hin : ∀ w ∈ wsX120, w ∈ vX12_sums := wsM_cls
  obtain ⟨hx, hb, hml, hown, hts⟩ := id K
  have hl : lv_has ls 2 [(0, .ref (ix 100))] := hl
  refine xi_iconst hx hb dX12_sums_0 ?_
  refine lv_istore_n (lv' := [(1, .int (iI (0))), (0, .ref (ix 100))]) hx hb dX12_sums_1 rfl hl (by decide) rfl (fun ls hl => ?_)
  refine lp_w2 (Wg := fun (H : Heap) (locs : List Loc) (ls : Array Slot) => W p_ l e_ { frames := 1, cells := 0, slots := 0, locals := 22 } s_ m_ ([.ref (ix 100)] : List Value).toArray be_ me_ co_ H locs 0 0 (MQ be_ (gQ D B0 (fun (r : Option Value) (g : gF) => r = none ∧ ∃ a q : Int → Int64, (∀ x : Int, 0 ≤ x → x < 21 → a x = dS S I (S.1 8 0).toNat x) ∧ (∀ x : Int, 0 ≤ x → x < 108 → q x = pS S I (S.1 8 0).toNat x) ∧ g = mW cy ix S (mX I a q tM) G)) ([.ref (ix 100)] : List Value).toArray s_ 0 0 (fun q : Nat => B0 ≤ q)) (F0 m_ 2 ls [])) (fun (k : Int) (a : Int → Int64) (H : Heap) (locs : List Loc) (ls : Array Slot) => ((0 ≤ k ∧ k ≤ 21) ∧ ∀ j : Int, 0 ≤ j → j < k → a j = 0) ∧ gW D B0 s_ (mW cy ix S (mX (I) (a) (qM) (tM)) G) H locs ∧ lv_has ls 2 [(1, .int (iI (k))), (0, .ref (ix 100))]) (fun (k : Int) (a : Int → Int64) => (21 - k).toNat) (fun k a H locs ls hI ih_lp_1 => ?_) (0) (aM) _ _ _ ⟨⟨⟨by omega, by omega⟩, fun j h1 h2 => by omega⟩, hW, lv_sub hl [0, 1] rfl⟩
  obtain ⟨hI_lp_1, hW, hl⟩ := hI
  obtain ⟨hk, hA⟩ := hI_lp_1
  refine lv_iload_n hx hb dX12_sums_2 rfl (lv_at hl 0 rfl) ?_
  refine xi_bipush hx hb dX12_sums_3 (by decide) ?_
  refine xi_icmp_ge (tgt := 21) hx hb ⟨by omega, by omega⟩ ⟨by omega, by omega⟩ dX12_sums_5 (by decide) (fun c_2 => ?_) (fun c_2 => ?_)
  · refine xi_iconst hx hb dX12_sums_21 ?_
    refine lv_istore_n (lv' := [(1, .int (iI (0))), (0, .ref (ix 100))]) hx hb dX12_sums_22 rfl hl (by decide) rfl (fun ls hl => ?_)
    refine lp_w2 (Wg := fun (H : Heap) (locs : List Loc) (ls : Array Slot) => W p_ l e_ { frames := 1, cells := 0, slots := 0, locals := 22 } s_ m_ ([.ref (ix 100)] : List Value).toArray be_ me_ co_ H locs 0 0 (MQ be_ (gQ D B0 (fun (r : Option Value) (g : gF) => r = none ∧ ∃ a q : Int → Int64, (∀ x : Int, 0 ≤ x → x < 21 → a x = dS S I (S.1 8 0).toNat x) ∧ (∀ x : Int, 0 ≤ x → x < 108 → q x = pS S I (S.1 8 0).toNat x) ∧ g = mW cy ix S (mX I a q tM) G)) ([.ref (ix 100)] : List Value).toArray s_ 0 0 (fun q : Nat => B0 ≤ q)) (F0 m_ 23 ls [])) (fun (k1 : Int) (q : Int → Int64) (H : Heap) (locs : List Loc) (ls : Array Slot) => ((0 ≤ k1 ∧ k1 ≤ 108) ∧ ∀ j : Int, 0 ≤ j → j < k1 → q j = 0) ∧ gW D B0 s_ (mW cy ix S (mX (I) (a) (q) (tM)) G) H locs ∧ lv_has ls 2 [(1, .int (iI (k1))), (0, .ref (ix 100))]) (fun (k1 : Int) (q : Int → Int64) => (108 - k1).toNat) (fun k1 q H locs ls hI ih_lp_3 => ?_) (0) (qM) _ _ _ ⟨⟨⟨by omega, by omega⟩, fun j h1 h2 => by omega⟩, hW, lv_sub hl [0, 1] rfl⟩
    obtain ⟨hI_lp_3, hW, hl⟩ := hI
    obtain ⟨hk1, hQ⟩ := hI_lp_3
    refine lv_iload_n hx hb dX12_sums_23 rfl (lv_at hl 0 rfl) ?_
    refine xi_bipush hx hb dX12_sums_24 (by decide) ?_
    refine xi_icmp_ge (tgt := 42) hx hb ⟨by omega, by omega⟩ ⟨by omega, by omega⟩ dX12_sums_26 (by decide) (fun c_4 => ?_) (fun c_4 => ?_)
    · refine xi_iconst hx hb dX12_sums_42 ?_
      refine lv_istore_n (lv' := [(1, .int (iI (0))), (0, .ref (ix 100))]) hx hb dX12_sums_43 rfl hl (by decide) rfl (fun ls hl => ?_)
      refine lp_w3 (Wg := fun (H : Heap) (locs : List Loc) (ls : Array Slot) => W p_ l e_ { frames := 1, cells := 0, slots := 0, locals := 22 } s_ m_ ([.ref (ix 100)] : List Value).toArray be_ me_ co_ H locs 0 0 (MQ be_ (gQ D B0 (fun (r : Option Value) (g : gF) => r = none ∧ ∃ a q : Int → Int64, (∀ x : Int, 0 ≤ x → x < 21 → a x = dS S I (S.1 8 0).toNat x) ∧ (∀ x : Int, 0 ≤ x → x < 108 → q x = pS S I (S.1 8 0).toNat x) ∧ g = mW cy ix S (mX I a q tM) G)) ([.ref (ix 100)] : List Value).toArray s_ 0 0 (fun q : Nat => B0 ≤ q)) (F0 m_ 44 ls [])) (fun (k2 : Int) (a2 : Int → Int64) (q2 : Int → Int64) (H : Heap) (locs : List Loc) (ls : Array Slot) => ((0 ≤ k2 ∧ k2 ≤ S.1 8 0) ∧ (∀ x : Int, 0 ≤ x → x < 21 → a2 x = dS S I k2.toNat x) ∧ ∀ x : Int, 0 ≤ x → x < 108 → q2 x = pS S I k2.toNat x) ∧ gW D B0 s_ (mW cy ix S (mX (I) (a2) (q2) (tM)) G) H locs ∧ lv_has ls 2 [(1, .int (iI (k2))), (0, .ref (ix 100))]) (fun (k2 : Int) (a2 : Int → Int64) (q2 : Int → Int64) => (60 - k2).toNat) (fun k2 a2 q2 H locs ls hI ih_lp_5 => ?_) (0) (a) (q) _ _ _ ⟨⟨⟨by omega, by have := wf_8 hwf 0; omega⟩, fun x h1 h2 => hA x h1 (by omega), fun x h1 h2 => hQ x h1 (by omega)⟩, hW, lv_sub hl [0, 1] rfl⟩
      obtain ⟨hI_lp_5, hW, hl⟩ := hI
      obtain ⟨hk2, hA2, hQ2⟩ := hI_lp_5
      refine lv_iload_n hx hb dX12_sums_44 rfl (lv_at hl 0 rfl) ?_
      refine lv_aload_n hx hb dX12_sums_45 rfl (lv_at hl 1 rfl) ?_
      refine mr_get K hK hW hin 8 (by decide) lM_payments (v := .int (iI (S.1 8 (0)))) rfl dX12_sums_46 ?_
      have w_w_6 := wf_8 hwf 0
      refine xi_icmp_ge (tgt := 199) hx hb ⟨by omega, by omega⟩ ⟨by omega, by omega⟩ dX12_sums_49 (by decide) (fun c_7 => ?_) (fun c_7 => ?_)
      · exact g_vret hx hb hr hW ⟨rfl, a2, q2, by rw [show S.1 8 0 = k2 by omega]; exact hA2, by rw [show S.1 8 0 = k2 by omega]; exact hQ2, rfl⟩ dX12_sums_199 hlk
      · refine lv_aload_n hx hb dX12_sums_52 rfl (lv_at hl 1 rfl) ?_
        refine mr_get K hK hW hin 33 (by decide) lM_isIn (v := .ref (ix 133)) rfl dX12_sums_53 ?_
        refine lv_iload_n hx hb dX12_sums_56 rfl (lv_at hl 0 rfl) ?_
        refine mr_zald K hK hW 33 (by decide) rfl (n := 60) rfl rfl ⟨by omega, by omega⟩ (v := bI (I (k2))) rfl dX12_sums_57 ?_
        refine xi_ifb_eq (tgt := 193) hx hb dX12_sums_58 (by decide) (fun c_8 => ?_) (fun c_8 => ?_)
        · refine xi_iinc (lv' := [(1, .int (iI (k2 + 1))), (0, .ref (ix 100))]) hx hb dX12_sums_193 hl (k := 0) rfl (by decide) rfl (fun ls hl => ?_)
          refine lv_goto (tgt := 44) hx hb dX12_sums_196 (by decide) ?_
          exact ih_lp_5 (k2 + 1) (a2) (q2) _ _ _ (by have := wf_8 hwf 0; first | omega | (dsimp only; omega)) ⟨⟨⟨by omega, by omega⟩, fun x h1 h2 => by
            rw [show (k2 + 1).toNat = k2.toNat + 1 by omega, dS_s, show ((k2.toNat : Nat) : Int) = k2 by omega, if_neg (by rw [c_8]; decide), Int64.add_zero]
            exact hA2 x h1 h2, fun x h1 h2 => by
            rw [show (k2 + 1).toNat = k2.toNat + 1 by omega, pS_s, show ((k2.toNat : Nat) : Int) = k2 by omega, if_neg (by rw [c_8]; decide), Int64.add_zero]
            exact hQ2 x h1 h2⟩, hW, lv_sub hl [0, 1] rfl⟩
        · refine lv_aload_n hx hb dX12_sums_61 rfl (lv_at hl 1 rfl) ?_
          refine mr_get K hK hW hin 34 (by decide) lM_more (v := .ref (ix 134)) rfl dX12_sums_62 ?_
          refine lv_aload_n hx hb dX12_sums_65 rfl (lv_at hl 1 rfl) ?_
          refine mr_get K hK hW hin 9 (by decide) lM_from (v := .ref (ix 109)) rfl dX12_sums_66 ?_
          refine lv_iload_n hx hb dX12_sums_69 rfl (lv_at hl 0 rfl) ?_
          refine mr_iald K hK hW 9 (by decide) rfl (n := 60) rfl rfl ⟨by omega, by omega⟩ (v := S.1 9 (k2)) rfl dX12_sums_70 ?_
          have w_9 := wf_9 hwf (k2)
          refine lv_aload_n hx hb dX12_sums_71 rfl (lv_at hl 1 rfl) ?_
          refine mr_get K hK hW hin 11 (by decide) lM_currency (v := .ref (ix 111)) rfl dX12_sums_72 ?_
          refine lv_iload_n hx hb dX12_sums_75 rfl (lv_at hl 0 rfl) ?_
          refine mr_iald K hK hW 11 (by decide) rfl (n := 60) rfl rfl ⟨by omega, by omega⟩ (v := S.1 11 (k2)) rfl dX12_sums_76 ?_
          have w_10 := wf_11 hwf (k2)
          refine g_callS (As := [.int (iI (S.1 9 (k2))), .int (iI (S.1 11 (k2)))]) (rest := [.ref (ix 134)]) K (c_M_of (S.1 9 (k2)) (S.1 11 (k2))) (va_cwS 2 hts gM_X12_of rfl rfl rfl (by decide +kernel) ⟨Nat.le_of_ble_eq_true rfl, Nat.le_of_ble_eq_true rfl⟩) hK hW rfl hl.1 rfl (Nat.le_of_ble_eq_true rfl) dX12_sums_77 ⟨Nat.le_refl _, Nat.le_refl _⟩ (fun v_ f_ H locs hp hW => ?_)
          obtain ⟨hpv, hpe⟩ := hp
          rw [hpe] at hW
          subst hpv
          refine lv_dup2_11 hx hb dX12_sums_80 rfl rfl ?_
          refine mr_lald K hK hW 34 (by decide) rfl (n := 21) rfl rfl ⟨by omega, by omega⟩ (v := a2 (3 * (S.1 9 (k2)) + (S.1 11 (k2)))) rfl dX12_sums_81 ?_
          refine lv_aload_n hx hb dX12_sums_82 rfl (lv_at hl 1 rfl) ?_
          refine mr_get K hK hW hin 12 (by decide) lM_amount (v := .ref (ix 112)) rfl dX12_sums_83 ?_
          refine lv_iload_n hx hb dX12_sums_86 rfl (lv_at hl 0 rfl) ?_
          refine mr_iald K hK hW 12 (by decide) rfl (n := 60) rfl rfl ⟨by omega, by omega⟩ (v := S.1 12 (k2)) rfl dX12_sums_87 ?_
          have w_11 := wf_12 hwf (k2)
          refine xi_i2l hx hb ⟨by omega, by omega⟩ dX12_sums_88 ?_
          refine lv_lsub hx hb dX12_sums_89 ?_
          refine mr_last34 K hK hW rfl ⟨by omega, by omega⟩ dX12_sums_90 (fun H locs hW => ?_)
          refine lv_aload_n hx hb dX12_sums_91 rfl (lv_at hl 1 rfl) ?_
          refine mr_get K hK hW hin 34 (by decide) lM_more (v := .ref (ix 134)) rfl dX12_sums_92 ?_
          refine lv_aload_n hx hb dX12_sums_95 rfl (lv_at hl 1 rfl) ?_
          refine mr_get K hK hW hin 10 (by decide) lM_to (v := .ref (ix 110)) rfl dX12_sums_96 ?_
          refine lv_iload_n hx hb dX12_sums_99 rfl (lv_at hl 0 rfl) ?_
          refine mr_iald K hK hW 10 (by decide) rfl (n := 60) rfl rfl ⟨by omega, by omega⟩ (v := S.1 10 (k2)) rfl dX12_sums_100 ?_
          have w_12 := wf_10 hwf (k2)
          refine lv_aload_n hx hb dX12_sums_101 rfl (lv_at hl 1 rfl) ?_
          refine mr_get K hK hW hin 11 (by decide) lM_currency (v := .ref (ix 111)) rfl dX12_sums_102 ?_
          refine lv_iload_n hx hb dX12_sums_105 rfl (lv_at hl 0 rfl) ?_
          refine mr_iald K hK hW 11 (by decide) rfl (n := 60) rfl rfl ⟨by omega, by omega⟩ (v := S.1 11 (k2)) rfl dX12_sums_106 ?_
          have w_13 := wf_11 hwf (k2)
          refine g_callS (As := [.int (iI (S.1 10 (k2))), .int (iI (S.1 11 (k2)))]) (rest := [.ref (ix 134)]) K (c_M_of (S.1 10 (k2)) (S.1 11 (k2))) (va_cwS 2 hts gM_X12_of rfl rfl rfl (by decide +kernel) ⟨Nat.le_of_ble_eq_true rfl, Nat.le_of_ble_eq_true rfl⟩) hK hW rfl hl.1 rfl (Nat.le_of_ble_eq_true rfl) dX12_sums_107 ⟨Nat.le_refl _, Nat.le_refl _⟩ (fun v_ f_ H locs hp hW => ?_)
          obtain ⟨hpv, hpe⟩ := hp
          rw [hpe] at hW
          subst hpv
          refine lv_dup2_11 hx hb dX12_sums_110 rfl rfl ?_
          refine mr_lald K hK hW 34 (by decide) rfl (n := 21) rfl rfl ⟨by omega, by omega⟩ (v := (lup a2 (3 * (S.1 9 (k2)) + (S.1 11 (k2))) ((a2 (3 * (S.1 9 (k2)) + (S.1 11 (k2)))) - (Int64.ofInt (S.1 12 (k2))))) (3 * (S.1 10 (k2)) + (S.1 11 (k2)))) rfl dX12_sums_111 ?_
          refine lv_aload_n hx hb dX12_sums_112 rfl (lv_at hl 1 rfl) ?_
          refine mr_get K hK hW hin 12 (by decide) lM_amount (v := .ref (ix 112)) rfl dX12_sums_113 ?_
          refine lv_iload_n hx hb dX12_sums_116 rfl (lv_at hl 0 rfl) ?_
          refine mr_iald K hK hW 12 (by decide) rfl (n := 60) rfl rfl ⟨by omega, by omega⟩ (v := S.1 12 (k2)) rfl dX12_sums_117 ?_
          have w_14 := wf_12 hwf (k2)
          refine xi_i2l hx hb ⟨by omega, by omega⟩ dX12_sums_118 ?_
          refine lv_ladd hx hb dX12_sums_119 ?_
          refine mr_last34 K hK hW rfl ⟨by omega, by omega⟩ dX12_sums_120 (fun H locs hW => ?_)
          refine lv_aload_n hx hb dX12_sums_121 rfl (lv_at hl 1 rfl) ?_
          refine mr_get K hK hW hin 35 (by decide) lM_morePaid (v := .ref (ix 135)) rfl dX12_sums_122 ?_
          refine lv_aload_n hx hb dX12_sums_125 rfl (lv_at hl 1 rfl) ?_
          refine mr_get K hK hW hin 9 (by decide) lM_from (v := .ref (ix 109)) rfl dX12_sums_126 ?_
          refine lv_iload_n hx hb dX12_sums_129 rfl (lv_at hl 0 rfl) ?_
          refine mr_iald K hK hW 9 (by decide) rfl (n := 60) rfl rfl ⟨by omega, by omega⟩ (v := S.1 9 (k2)) rfl dX12_sums_130 ?_
          have w_15 := wf_9 hwf (k2)
          refine lv_aload_n hx hb dX12_sums_131 rfl (lv_at hl 1 rfl) ?_
          refine mr_get K hK hW hin 10 (by decide) lM_to (v := .ref (ix 110)) rfl dX12_sums_132 ?_
          refine lv_iload_n hx hb dX12_sums_135 rfl (lv_at hl 0 rfl) ?_
          refine mr_iald K hK hW 10 (by decide) rfl (n := 60) rfl rfl ⟨by omega, by omega⟩ (v := S.1 10 (k2)) rfl dX12_sums_136 ?_
          have w_16 := wf_10 hwf (k2)
          refine lv_aload_n hx hb dX12_sums_137 rfl (lv_at hl 1 rfl) ?_
          refine mr_get K hK hW hin 11 (by decide) lM_currency (v := .ref (ix 111)) rfl dX12_sums_138 ?_
          refine lv_iload_n hx hb dX12_sums_141 rfl (lv_at hl 0 rfl) ?_
          refine mr_iald K hK hW 11 (by decide) rfl (n := 60) rfl rfl ⟨by omega, by omega⟩ (v := S.1 11 (k2)) rfl dX12_sums_142 ?_
          have w_17 := wf_11 hwf (k2)
          refine g_callS (As := [.int (iI (S.1 9 (k2))), .int (iI (S.1 10 (k2))), .int (iI (S.1 11 (k2)))]) (rest := [.ref (ix 135)]) K (c_M_pair (S.1 9 (k2)) (S.1 10 (k2)) (S.1 11 (k2))) (va_cwS 3 hts gM_X12_pair rfl rfl rfl (by decide +kernel) ⟨Nat.le_of_ble_eq_true rfl, Nat.le_of_ble_eq_true rfl⟩) hK hW rfl hl.1 rfl (Nat.le_of_ble_eq_true rfl) dX12_sums_143 ⟨Nat.le_refl _, Nat.le_refl _⟩ (fun v_ f_ H locs hp hW => ?_)
          obtain ⟨hpv, hpe⟩ := hp
          rw [hpe] at hW
          subst hpv
          refine lv_dup2_11 hx hb dX12_sums_146 rfl rfl ?_
          refine mr_lald K hK hW 35 (by decide) rfl (n := 108) rfl rfl ⟨by omega, by omega⟩ (v := q2 (3 * (6 * (S.1 9 (k2)) + (S.1 10 (k2))) + (S.1 11 (k2)))) rfl dX12_sums_147 ?_
          refine lv_aload_n hx hb dX12_sums_148 rfl (lv_at hl 1 rfl) ?_
          refine mr_get K hK hW hin 12 (by decide) lM_amount (v := .ref (ix 112)) rfl dX12_sums_149 ?_
          refine lv_iload_n hx hb dX12_sums_152 rfl (lv_at hl 0 rfl) ?_
          refine mr_iald K hK hW 12 (by decide) rfl (n := 60) rfl rfl ⟨by omega, by omega⟩ (v := S.1 12 (k2)) rfl dX12_sums_153 ?_
          have w_18 := wf_12 hwf (k2)
          refine xi_i2l hx hb ⟨by omega, by omega⟩ dX12_sums_154 ?_
          refine lv_ladd hx hb dX12_sums_155 ?_
          refine mr_last35 K hK hW rfl ⟨by omega, by omega⟩ dX12_sums_156 (fun H locs hW => ?_)
          refine lv_aload_n hx hb dX12_sums_157 rfl (lv_at hl 1 rfl) ?_
          refine mr_get K hK hW hin 35 (by decide) lM_morePaid (v := .ref (ix 135)) rfl dX12_sums_158 ?_
          refine lv_aload_n hx hb dX12_sums_161 rfl (lv_at hl 1 rfl) ?_
          refine mr_get K hK hW hin 10 (by decide) lM_to (v := .ref (ix 110)) rfl dX12_sums_162 ?_
          refine lv_iload_n hx hb dX12_sums_165 rfl (lv_at hl 0 rfl) ?_
          refine mr_iald K hK hW 10 (by decide) rfl (n := 60) rfl rfl ⟨by omega, by omega⟩ (v := S.1 10 (k2)) rfl dX12_sums_166 ?_
          have w_19 := wf_10 hwf (k2)
          refine lv_aload_n hx hb dX12_sums_167 rfl (lv_at hl 1 rfl) ?_
          refine mr_get K hK hW hin 9 (by decide) lM_from (v := .ref (ix 109)) rfl dX12_sums_168 ?_
          refine lv_iload_n hx hb dX12_sums_171 rfl (lv_at hl 0 rfl) ?_
          refine mr_iald K hK hW 9 (by decide) rfl (n := 60) rfl rfl ⟨by omega, by omega⟩ (v := S.1 9 (k2)) rfl dX12_sums_172 ?_
          have w_20 := wf_9 hwf (k2)
          refine lv_aload_n hx hb dX12_sums_173 rfl (lv_at hl 1 rfl) ?_
          refine mr_get K hK hW hin 11 (by decide) lM_currency (v := .ref (ix 111)) rfl dX12_sums_174 ?_
          refine lv_iload_n hx hb dX12_sums_177 rfl (lv_at hl 0 rfl) ?_
          refine mr_iald K hK hW 11 (by decide) rfl (n := 60) rfl rfl ⟨by omega, by omega⟩ (v := S.1 11 (k2)) rfl dX12_sums_178 ?_
          have w_21 := wf_11 hwf (k2)
          refine g_callS (As := [.int (iI (S.1 10 (k2))), .int (iI (S.1 9 (k2))), .int (iI (S.1 11 (k2)))]) (rest := [.ref (ix 135)]) K (c_M_pair (S.1 10 (k2)) (S.1 9 (k2)) (S.1 11 (k2))) (va_cwS 3 hts gM_X12_pair rfl rfl rfl (by decide +kernel) ⟨Nat.le_of_ble_eq_true rfl, Nat.le_of_ble_eq_true rfl⟩) hK hW rfl hl.1 rfl (Nat.le_of_ble_eq_true rfl) dX12_sums_179 ⟨Nat.le_refl _, Nat.le_refl _⟩ (fun v_ f_ H locs hp hW => ?_)
          obtain ⟨hpv, hpe⟩ := hp
          rw [hpe] at hW
          subst hpv
          refine lv_dup2_11 hx hb dX12_sums_182 rfl rfl ?_
          refine mr_lald K hK hW 35 (by decide) rfl (n := 108) rfl rfl ⟨by omega, by omega⟩ (v := (lup q2 (3 * (6 * (S.1 9 (k2)) + (S.1 10 (k2))) + (S.1 11 (k2))) ((q2 (3 * (6 * (S.1 9 (k2)) + (S.1 10 (k2))) + (S.1 11 (k2)))) + (Int64.ofInt (S.1 12 (k2))))) (3 * (6 * (S.1 10 (k2)) + (S.1 9 (k2))) + (S.1 11 (k2)))) rfl dX12_sums_183 ?_
          refine lv_aload_n hx hb dX12_sums_184 rfl (lv_at hl 1 rfl) ?_
          refine mr_get K hK hW hin 12 (by decide) lM_amount (v := .ref (ix 112)) rfl dX12_sums_185 ?_
          refine lv_iload_n hx hb dX12_sums_188 rfl (lv_at hl 0 rfl) ?_
          refine mr_iald K hK hW 12 (by decide) rfl (n := 60) rfl rfl ⟨by omega, by omega⟩ (v := S.1 12 (k2)) rfl dX12_sums_189 ?_
          have w_22 := wf_12 hwf (k2)
          refine xi_i2l hx hb ⟨by omega, by omega⟩ dX12_sums_190 ?_
          refine lv_lsub hx hb dX12_sums_191 ?_
          refine mr_last35 K hK hW rfl ⟨by omega, by omega⟩ dX12_sums_192 (fun H locs hW => ?_)
          refine xi_iinc (lv' := [(1, .int (iI (k2 + 1))), (0, .ref (ix 100))]) hx hb dX12_sums_193 hl (k := 0) rfl (by decide) rfl (fun ls hl => ?_)
          refine lv_goto (tgt := 44) hx hb dX12_sums_196 (by decide) ?_
          exact ih_lp_5 (k2 + 1) (lup (lup a2 (3 * (S.1 9 (k2)) + (S.1 11 (k2))) ((a2 (3 * (S.1 9 (k2)) + (S.1 11 (k2)))) - (Int64.ofInt (S.1 12 (k2))))) (3 * (S.1 10 (k2)) + (S.1 11 (k2))) (((lup a2 (3 * (S.1 9 (k2)) + (S.1 11 (k2))) ((a2 (3 * (S.1 9 (k2)) + (S.1 11 (k2)))) - (Int64.ofInt (S.1 12 (k2))))) (3 * (S.1 10 (k2)) + (S.1 11 (k2)))) + (Int64.ofInt (S.1 12 (k2))))) (lup (lup q2 (3 * (6 * (S.1 9 (k2)) + (S.1 10 (k2))) + (S.1 11 (k2))) ((q2 (3 * (6 * (S.1 9 (k2)) + (S.1 10 (k2))) + (S.1 11 (k2)))) + (Int64.ofInt (S.1 12 (k2))))) (3 * (6 * (S.1 10 (k2)) + (S.1 9 (k2))) + (S.1 11 (k2))) (((lup q2 (3 * (6 * (S.1 9 (k2)) + (S.1 10 (k2))) + (S.1 11 (k2))) ((q2 (3 * (6 * (S.1 9 (k2)) + (S.1 10 (k2))) + (S.1 11 (k2)))) + (Int64.ofInt (S.1 12 (k2))))) (3 * (6 * (S.1 10 (k2)) + (S.1 9 (k2))) + (S.1 11 (k2)))) - (Int64.ofInt (S.1 12 (k2))))) _ _ _ (by have := wf_8 hwf 0; first | omega | (dsimp only; omega)) ⟨⟨⟨by omega, by omega⟩, fun x h1 h2 => by
            rw [show (k2 + 1).toNat = k2.toNat + 1 by omega, dS_s, show ((k2.toNat : Nat) : Int) = k2 by omega, if_pos c_8, ← hA2 x h1 h2]
            exact lup2 a2 _ _ _ x, fun x h1 h2 => by
            rw [show (k2 + 1).toNat = k2.toNat + 1 by omega, pS_s, show ((k2.toNat : Nat) : Int) = k2 by omega, if_pos c_8, ← hQ2 x h1 h2]
            exact lup2' q2 _ _ _ x⟩, hW, lv_sub hl [0, 1] rfl⟩
    · refine lv_aload_n hx hb dX12_sums_29 rfl (lv_at hl 1 rfl) ?_
      refine mr_get K hK hW hin 35 (by decide) lM_morePaid (v := .ref (ix 135)) rfl dX12_sums_30 ?_
      refine lv_iload_n hx hb dX12_sums_33 rfl (lv_at hl 0 rfl) ?_
      refine lv_lconst (v := 0) hx hb dX12_sums_34 (by decide) ?_
      refine mr_last35 K hK hW rfl ⟨by omega, by omega⟩ dX12_sums_35 (fun H locs hW => ?_)
      refine xi_iinc (lv' := [(1, .int (iI (k1 + 1))), (0, .ref (ix 100))]) hx hb dX12_sums_36 hl (k := 0) rfl (by decide) rfl (fun ls hl => ?_)
      refine lv_goto (tgt := 23) hx hb dX12_sums_39 (by decide) ?_
      exact ih_lp_3 (k1 + 1) (lup q (k1) (0)) _ _ _ (by first | omega | (dsimp only; omega)) ⟨⟨⟨by omega, by omega⟩, fun j h1 h2 => by
          by_cases h : j = k1
          · rw [h]; exact lup_s _ _ _
          · rw [lup_n _ _ h]; exact hQ j h1 (by omega)⟩, hW, lv_sub hl [0, 1] rfl⟩
  · refine lv_aload_n hx hb dX12_sums_8 rfl (lv_at hl 1 rfl) ?_
    refine mr_get K hK hW hin 34 (by decide) lM_more (v := .ref (ix 134)) rfl dX12_sums_9 ?_
    refine lv_iload_n hx hb dX12_sums_12 rfl (lv_at hl 0 rfl) ?_
    refine lv_lconst (v := 0) hx hb dX12_sums_13 (by decide) ?_
    refine mr_last34 K hK hW rfl ⟨by omega, by omega⟩ dX12_sums_14 (fun H locs hW => ?_)
    refine xi_iinc (lv' := [(1, .int (iI (k + 1))), (0, .ref (ix 100))]) hx hb dX12_sums_15 hl (k := 0) rfl (by decide) rfl (fun ls hl => ?_)
    refine lv_goto (tgt := 2) hx hb dX12_sums_18 (by decide) ?_
    exact ih_lp_1 (k + 1) (lup a (k) (0)) _ _ _ (by first | omega | (dsimp only; omega)) ⟨⟨⟨by omega, by omega⟩, fun j h1 h2 => by
        by_cases h : j = k
        · rw [h]; exact lup_s _ _ _
        · rw [lup_n _ _ h]; exact hA j h1 (by omega)⟩, hW, lv_sub hl [0, 1] rfl⟩
set_option maxHeartbeats 4000000 in
set_option maxRecDepth 100000 in
theorem c_M_isShort {l : Launch} {D : va_G} {cy : Nat → ClassId} {B0 : Nat} {ix : Nat → Nat} {S : ST} {I : Int → Bool} {aM qM : Int → Int64} {tM : Int} {G : gF} (b : Int) (c : Int) (hb0 : 0 ≤ b ∧ b ≤ 5) (hc : 0 ≤ c ∧ c ≤ 2) (hwf : wf S) : gM l yX12_isShort vX12_isShort 1 21 D cy B0 [.ref (ix 100), .int (iI b), .int (iI c)] (mW cy ix S (mX I aM qM tM) G) (fun r g => r = some (.int (iI (bI (shX S aM b c)))) ∧ g = mW cy ix S (mX I aM qM tM) G) 0 0 := by
  refine g_start (cc := cX12_isShort) (maxL := 4) (ret := (some .boolean)) (by decide) rfl (Nat.le_of_ble_eq_true rfl) ?_
  intro p_ e_ s_ m_ be_ me_ co_ ls H locs K hr hlk hnm hK hW hl
  have hin : ∀ w ∈ wsX120, w ∈ vX12_isShort := wsM_cls
  obtain ⟨hx, hb, hml, hown, hts⟩ := id K
  have hl : lv_has ls 4 [(0, .ref (ix 100)), (1, .int (iI (b))), (2, .int (iI (c)))] := hl
  refine lv_iload_n hx hb dX12_isShort_0 rfl (lv_at hl 1 rfl) ?_
  refine lv_iload_n hx hb dX12_isShort_1 rfl (lv_at hl 2 rfl) ?_
  refine g_callS (As := [.int (iI (b)), .int (iI (c))]) (rest := []) K (c_M_of (b) (c)) (va_cwS 2 hts gM_X12_of rfl rfl rfl (by decide +kernel) ⟨Nat.le_of_ble_eq_true rfl, Nat.le_of_ble_eq_true rfl⟩) hK hW rfl hl.1 rfl (Nat.le_of_ble_eq_true rfl) dX12_isShort_2 ⟨Nat.le_refl _, Nat.le_refl _⟩ (fun v_ f_ H locs hp hW => ?_)
  obtain ⟨hpv, hpe⟩ := hp
  rw [hpe] at hW
  subst hpv
  refine lv_istore_n (lv' := [(3, .int (iI (3 * b + c))), (0, .ref (ix 100)), (1, .int (iI (b))), (2, .int (iI (c)))]) hx hb dX12_isShort_5 rfl hl (by decide) rfl (fun ls hl => ?_)
  refine lv_aload_n hx hb dX12_isShort_6 rfl (lv_at hl 1 rfl) ?_
  refine mr_get K hK hW hin 34 (by decide) lM_more (v := .ref (ix 134)) rfl dX12_isShort_7 ?_
  refine lv_iload_n hx hb dX12_isShort_10 rfl (lv_at hl 0 rfl) ?_
  refine mr_lald K hK hW 34 (by decide) rfl (n := 21) rfl rfl ⟨by omega, by omega⟩ (v := aM (3 * b + c)) rfl dX12_isShort_11 ?_
  refine lv_lconst (v := 0) hx hb dX12_isShort_12 (by decide) ?_
  refine xi_lcmp_ge (tgt := 46) hx hb dX12_isShort_13 dX12_isShort_14 (by decide) (fun c_1 => ?_) (fun c_1 => ?_)
  · refine xi_iconst hx hb dX12_isShort_46 ?_
    exact g_zret hx hb hr (Or.inl rfl) hW ⟨congrArg (fun z => some (Value.int (iI z))) (bI_f (by simp only [shX, c_1, decide_true, decide_false, Bool.true_and, Bool.and_true, Bool.false_and, Bool.and_false, Bool.true_or, Bool.or_true, Bool.false_or, Bool.or_false, Bool.not_true, Bool.not_false, eq_self])), rfl⟩ dX12_isShort_47 hlk
  · refine lv_aload_n hx hb dX12_isShort_17 rfl (lv_at hl 1 rfl) ?_
    refine mr_get K hK hW hin 1 (by decide) lM_account (v := .ref (ix 101)) rfl dX12_isShort_18 ?_
    refine lv_iload_n hx hb dX12_isShort_21 rfl (lv_at hl 0 rfl) ?_
    refine mr_lald K hK hW 1 (by decide) rfl (n := 21) rfl rfl ⟨by omega, by omega⟩ (v := S.2 1 (3 * b + c)) rfl dX12_isShort_22 ?_
    refine lv_aload_n hx hb dX12_isShort_23 rfl (lv_at hl 1 rfl) ?_
    refine mr_get K hK hW hin 34 (by decide) lM_more (v := .ref (ix 134)) rfl dX12_isShort_24 ?_
    refine lv_iload_n hx hb dX12_isShort_27 rfl (lv_at hl 0 rfl) ?_
    refine mr_lald K hK hW 34 (by decide) rfl (n := 21) rfl rfl ⟨by omega, by omega⟩ (v := aM (3 * b + c)) rfl dX12_isShort_28 ?_
    refine lv_ladd hx hb dX12_isShort_29 ?_
    refine lv_aload_n hx hb dX12_isShort_30 rfl (lv_at hl 1 rfl) ?_
    refine mr_get K hK hW hin 2 (by decide) lM_line (v := .ref (ix 102)) rfl dX12_isShort_31 ?_
    refine lv_iload_n hx hb dX12_isShort_34 rfl (lv_at hl 0 rfl) ?_
    refine mr_iald K hK hW 2 (by decide) rfl (n := 18) rfl rfl ⟨by omega, by omega⟩ (v := S.1 2 (3 * b + c)) rfl dX12_isShort_35 ?_
    have w_2 := wf_2 hwf (3 * b + c)
    refine xi_ineg hx hb dX12_isShort_36 ?_
    refine xi_i2l hx hb ⟨by omega, by omega⟩ dX12_isShort_37 ?_
    refine xi_lcmp_ge (tgt := 46) hx hb dX12_isShort_38 dX12_isShort_39 (by decide) (fun c_3 => ?_) (fun c_3 => ?_)
    · refine xi_iconst hx hb dX12_isShort_46 ?_
      exact g_zret hx hb hr (Or.inl rfl) hW ⟨congrArg (fun z => some (Value.int (iI z))) (bI_f (by simp only [shX, c_1, c_3, decide_true, decide_false, Bool.true_and, Bool.and_true, Bool.false_and, Bool.and_false, Bool.true_or, Bool.or_true, Bool.false_or, Bool.or_false, Bool.not_true, Bool.not_false, eq_self])), rfl⟩ dX12_isShort_47 hlk
    · refine xi_iconst hx hb dX12_isShort_42 ?_
      refine lv_goto (tgt := 47) hx hb dX12_isShort_43 (by decide) ?_
      exact g_zret hx hb hr (Or.inr rfl) hW ⟨congrArg (fun z => some (Value.int (iI z))) (bI_t (by simp only [shX, c_1, c_3, decide_true, decide_false, Bool.true_and, Bool.and_true, Bool.false_and, Bool.and_false, Bool.true_or, Bool.or_true, Bool.false_or, Bool.or_false, Bool.not_true, Bool.not_false, eq_self])), rfl⟩ dX12_isShort_47 hlk
set_option maxHeartbeats 4000000 in
set_option maxRecDepth 100000 in
theorem c_M_isPassed {l : Launch} {D : va_G} {cy : Nat → ClassId} {B0 : Nat} {ix : Nat → Nat} {S : ST} {I : Int → Bool} {aM qM : Int → Int64} {tM : Int} {G : gF} (b : Int) (u : Int) (c : Int) (hb0 : 0 ≤ b ∧ b ≤ 5) (hu : 0 ≤ u ∧ u ≤ 5) (hc : 0 ≤ c ∧ c ≤ 2) (hwf : wf S) : gM l yX12_isPassed vX12_isPassed 1 22 D cy B0 [.ref (ix 100), .int (iI b), .int (iI u), .int (iI c)] (mW cy ix S (mX I aM qM tM) G) (fun r g => r = some (.int (iI (bI (paX S qM b u c)))) ∧ g = mW cy ix S (mX I aM qM tM) G) 0 0 := by
  refine g_start (cc := cX12_isPassed) (maxL := 5) (ret := (some .boolean)) (by decide) rfl (Nat.le_of_ble_eq_true rfl) ?_
  intro p_ e_ s_ m_ be_ me_ co_ ls H locs K hr hlk hnm hK hW hl
  have hin : ∀ w ∈ wsX120, w ∈ vX12_isPassed := wsM_cls
  obtain ⟨hx, hb, hml, hown, hts⟩ := id K
  have hl : lv_has ls 5 [(0, .ref (ix 100)), (1, .int (iI (b))), (2, .int (iI (u))), (3, .int (iI (c)))] := hl
  refine lv_iload_n hx hb dX12_isPassed_0 rfl (lv_at hl 1 rfl) ?_
  refine lv_iload_n hx hb dX12_isPassed_1 rfl (lv_at hl 2 rfl) ?_
  refine lv_iload_n hx hb dX12_isPassed_2 rfl (lv_at hl 3 rfl) ?_
  refine g_callS (As := [.int (iI (b)), .int (iI (u)), .int (iI (c))]) (rest := []) K (c_M_pair (b) (u) (c)) (va_cwS 3 hts gM_X12_pair rfl rfl rfl (by decide +kernel) ⟨Nat.le_of_ble_eq_true rfl, Nat.le_of_ble_eq_true rfl⟩) hK hW rfl hl.1 rfl (Nat.le_of_ble_eq_true rfl) dX12_isPassed_3 ⟨Nat.le_refl _, Nat.le_refl _⟩ (fun v_ f_ H locs hp hW => ?_)
  obtain ⟨hpv, hpe⟩ := hp
  rw [hpe] at hW
  subst hpv
  refine lv_istore (lv' := [(4, .int (iI (3 * (6 * b + u) + c))), (0, .ref (ix 100)), (1, .int (iI (b))), (2, .int (iI (u))), (3, .int (iI (c)))]) hx hb dX12_isPassed_6 hl (by decide) rfl (fun ls hl => ?_)
  refine lv_aload_n hx hb dX12_isPassed_8 rfl (lv_at hl 1 rfl) ?_
  refine mr_get K hK hW hin 35 (by decide) lM_morePaid (v := .ref (ix 135)) rfl dX12_isPassed_9 ?_
  refine lv_iload hx hb dX12_isPassed_12 (lv_at hl 0 rfl) ?_
  refine mr_lald K hK hW 35 (by decide) rfl (n := 108) rfl rfl ⟨by omega, by omega⟩ (v := qM (3 * (6 * b + u) + c)) rfl dX12_isPassed_14 ?_
  refine lv_lconst (v := 0) hx hb dX12_isPassed_15 (by decide) ?_
  refine xi_lcmp_le (tgt := 62) hx hb dX12_isPassed_16 dX12_isPassed_17 (by decide) (fun c_1 => ?_) (fun c_1 => ?_)
  · refine xi_iconst hx hb dX12_isPassed_62 ?_
    exact g_zret hx hb hr (Or.inl rfl) hW ⟨congrArg (fun z => some (Value.int (iI z))) (bI_f (by simp only [paX, c_1, decide_true, decide_false, Bool.true_and, Bool.and_true, Bool.false_and, Bool.and_false, Bool.true_or, Bool.or_true, Bool.false_or, Bool.or_false, Bool.not_true, Bool.not_false, eq_self])), rfl⟩ dX12_isPassed_63 hlk
  · refine lv_aload_n hx hb dX12_isPassed_20 rfl (lv_at hl 1 rfl) ?_
    refine mr_get K hK hW hin 3 (by decide) lM_limit (v := .ref (ix 103)) rfl dX12_isPassed_21 ?_
    refine lv_iload hx hb dX12_isPassed_24 (lv_at hl 0 rfl) ?_
    refine mr_iald K hK hW 3 (by decide) rfl (n := 108) rfl rfl ⟨by omega, by omega⟩ (v := S.1 3 (3 * (6 * b + u) + c)) rfl dX12_isPassed_26 ?_
    have w_2 := wf_3 hwf (3 * (6 * b + u) + c)
    refine xi_iconst hx hb dX12_isPassed_27 ?_
    refine xi_icmp_eq (tgt := 62) hx hb ⟨by omega, by omega⟩ ⟨by omega, by omega⟩ dX12_isPassed_28 (by decide) (fun c_3 => ?_) (fun c_3 => ?_)
    · refine xi_iconst hx hb dX12_isPassed_62 ?_
      exact g_zret hx hb hr (Or.inl rfl) hW ⟨congrArg (fun z => some (Value.int (iI z))) (bI_f (by simp only [paX, c_1, c_3, decide_true, decide_false, Bool.true_and, Bool.and_true, Bool.false_and, Bool.and_false, Bool.true_or, Bool.or_true, Bool.false_or, Bool.or_false, Bool.not_true, Bool.not_false, eq_self])), rfl⟩ dX12_isPassed_63 hlk
    · refine lv_aload_n hx hb dX12_isPassed_31 rfl (lv_at hl 1 rfl) ?_
      refine mr_get K hK hW hin 4 (by decide) lM_paid (v := .ref (ix 104)) rfl dX12_isPassed_32 ?_
      refine lv_iload hx hb dX12_isPassed_35 (lv_at hl 0 rfl) ?_
      refine mr_lald K hK hW 4 (by decide) rfl (n := 108) rfl rfl ⟨by omega, by omega⟩ (v := S.2 4 (3 * (6 * b + u) + c)) rfl dX12_isPassed_37 ?_
      refine lv_aload_n hx hb dX12_isPassed_38 rfl (lv_at hl 1 rfl) ?_
      refine mr_get K hK hW hin 35 (by decide) lM_morePaid (v := .ref (ix 135)) rfl dX12_isPassed_39 ?_
      refine lv_iload hx hb dX12_isPassed_42 (lv_at hl 0 rfl) ?_
      refine mr_lald K hK hW 35 (by decide) rfl (n := 108) rfl rfl ⟨by omega, by omega⟩ (v := qM (3 * (6 * b + u) + c)) rfl dX12_isPassed_44 ?_
      refine lv_ladd hx hb dX12_isPassed_45 ?_
      refine lv_aload_n hx hb dX12_isPassed_46 rfl (lv_at hl 1 rfl) ?_
      refine mr_get K hK hW hin 3 (by decide) lM_limit (v := .ref (ix 103)) rfl dX12_isPassed_47 ?_
      refine lv_iload hx hb dX12_isPassed_50 (lv_at hl 0 rfl) ?_
      refine mr_iald K hK hW 3 (by decide) rfl (n := 108) rfl rfl ⟨by omega, by omega⟩ (v := S.1 3 (3 * (6 * b + u) + c)) rfl dX12_isPassed_52 ?_
      have w_4 := wf_3 hwf (3 * (6 * b + u) + c)
      refine xi_i2l hx hb ⟨by omega, by omega⟩ dX12_isPassed_53 ?_
      refine xi_lcmp_le (tgt := 62) hx hb dX12_isPassed_54 dX12_isPassed_55 (by decide) (fun c_5 => ?_) (fun c_5 => ?_)
      · refine xi_iconst hx hb dX12_isPassed_62 ?_
        exact g_zret hx hb hr (Or.inl rfl) hW ⟨congrArg (fun z => some (Value.int (iI z))) (bI_f (by simp only [paX, c_1, c_3, c_5, decide_true, decide_false, Bool.true_and, Bool.and_true, Bool.false_and, Bool.and_false, Bool.true_or, Bool.or_true, Bool.false_or, Bool.or_false, Bool.not_true, Bool.not_false, eq_self])), rfl⟩ dX12_isPassed_63 hlk
      · refine xi_iconst hx hb dX12_isPassed_58 ?_
        refine lv_goto (tgt := 63) hx hb dX12_isPassed_59 (by decide) ?_
        exact g_zret hx hb hr (Or.inr rfl) hW ⟨congrArg (fun z => some (Value.int (iI z))) (bI_t (by simp only [paX, c_1, c_3, c_5, decide_true, decide_false, Bool.true_and, Bool.and_true, Bool.false_and, Bool.and_false, Bool.true_or, Bool.or_true, Bool.false_or, Bool.or_false, Bool.not_true, Bool.not_false, eq_self])), rfl⟩ dX12_isPassed_63 hlk
set_option maxHeartbeats 4000000 in
set_option maxRecDepth 100000 in
theorem c_M_fits {l : Launch} {D : va_G} {cy : Nat → ClassId} {B0 : Nat} {ix : Nat → Nat} {S : ST} {I : Int → Bool} {aM qM : Int → Int64} {tM : Int} {G : gF} (c : Int) (hc : 0 ≤ c ∧ c ≤ 2) (hwf : wf S) : gM l yX12_fits vX12_fits 2 46 D cy B0 [.ref (ix 100), .int (iI c)] (mW cy ix S (mX I aM qM tM) G) (fun r g => r = some (.int (iI (bI (fiX S aM qM c)))) ∧ g = mW cy ix S (mX I aM qM tM) G) 0 0 := by
  refine g_start (cc := cX12_fits) (maxL := 5) (ret := (some .boolean)) (by decide) rfl (Nat.le_of_ble_eq_true rfl) ?_
  intro p_ e_ s_ m_ be_ me_ co_ ls H locs K hr hlk hnm hK hW hl
  have hin : ∀ w ∈ wsX120, w ∈ vX12_fits := wsM_cls
  obtain ⟨hx, hb, hml, hown, hts⟩ := id K
  have hl : lv_has ls 5 [(0, .ref (ix 100)), (1, .int (iI (c)))] := hl
  refine xi_iconst hx hb dX12_fits_0 ?_
  refine lv_istore_n (lv' := [(2, .int (iI (1))), (0, .ref (ix 100)), (1, .int (iI (c)))]) hx hb dX12_fits_1 rfl hl (by decide) rfl (fun ls hl => ?_)
  refine xi_iconst hx hb dX12_fits_2 ?_
  refine lv_istore_n (lv' := [(3, .int (iI (0))), (2, .int (iI (1))), (0, .ref (ix 100)), (1, .int (iI (c)))]) hx hb dX12_fits_3 rfl hl (by decide) rfl (fun ls hl => ?_)
  refine lp_w1 (Wg := fun (H : Heap) (locs : List Loc) (ls : Array Slot) => W p_ l e_ { frames := 2, cells := 0, slots := 0, locals := 46 } s_ m_ ([.ref (ix 100), .int (iI c)] : List Value).toArray be_ me_ co_ H locs 0 0 (MQ be_ (gQ D B0 (fun (r : Option Value) (g : gF) => r = some (.int (iI (bI (fiX S aM qM c)))) ∧ g = mW cy ix S (mX I aM qM tM) G)) ([.ref (ix 100), .int (iI c)] : List Value).toArray s_ 0 0 (fun q : Nat => B0 ≤ q)) (F0 m_ 4 ls [])) (fun (k : Int) (H : Heap) (locs : List Loc) (ls : Array Slot) => (0 ≤ k ∧ k ≤ 6) ∧ gW D B0 s_ (mW cy ix S (mX (I) (aM) (qM) (tM)) G) H locs ∧ lv_has ls 5 [(3, .int (iI (k))), (2, .int (iI (bI (alB (fun b => !shX S aM b c && alB (fun o => !paX S qM b o c) 6) k.toNat)))), (1, .int (iI (c))), (0, .ref (ix 100))]) (fun (k : Int) => (6 - k).toNat) (fun k H locs ls hI ih_lp_1 => ?_) (0) _ _ _ ⟨⟨by omega, by omega⟩, hW, lv_sub hl [0, 1, 3, 2] rfl⟩
  obtain ⟨hI_lp_1, hW, hl⟩ := hI
  refine lv_iload_n hx hb dX12_fits_4 rfl (lv_at hl 0 rfl) ?_
  refine xi_bipush hx hb dX12_fits_5 (by decide) ?_
  refine xi_icmp_ge (tgt := 72) hx hb ⟨by omega, by omega⟩ ⟨by omega, by omega⟩ dX12_fits_7 (by decide) (fun c_2 => ?_) (fun c_2 => ?_)
  · refine lv_iload_n hx hb dX12_fits_72 rfl (lv_at hl 1 rfl) ?_
    exact g_zret hx hb hr (bI_01 _) hW ⟨by rw [show k = 6 by omega]; rfl, rfl⟩ dX12_fits_73 hlk
  · have j_3 : ∀ (zJ : Bool) (H : Heap) (locs : List Loc), zJ = (alB (fun b => !shX S aM b c && alB (fun o => !paX S qM b o c) 6) k.toNat && !shX S aM k c) → gW D B0 s_ (mW cy ix S (mX (I) (aM) (qM) (tM)) G) H locs → W p_ l e_ { frames := 2, cells := 0, slots := 0, locals := 46 } s_ m_ ([.ref (ix 100), .int (iI c)] : List Value).toArray be_ me_ co_ H locs 0 0 (MQ be_ (gQ D B0 (fun (r : Option Value) (g : gF) => r = some (.int (iI (bI (fiX S aM qM c)))) ∧ g = mW cy ix S (mX I aM qM tM) G)) ([.ref (ix 100), .int (iI c)] : List Value).toArray s_ 0 0 (fun q : Nat => B0 ≤ q)) (F0 m_ 28 ls [.int (iI (bI (zJ)))]) := by
      intro zJ H locs hzJ hW
      subst hzJ
      refine lv_istore_n (lv' := [(2, .int (iI (bI (alB (fun b => !shX S aM b c && alB (fun o => !paX S qM b o c) 6) k.toNat && !shX S aM k c)))), (3, .int (iI (k))), (1, .int (iI (c))), (0, .ref (ix 100))]) hx hb dX12_fits_28 rfl hl (by decide) rfl (fun ls hl => ?_)
      refine xi_iconst hx hb dX12_fits_29 ?_
      have hl : lv_has ls 5 [(2, .int (iI (bI (alB (fun b => !shX S aM b c && alB (fun o => !paX S qM b o c) 6) k.toNat && !shX S aM k c && alB (fun o => !paX S qM k o c) (0 : Int).toNat)))), (3, .int (iI (k))), (1, .int (iI (c))), (0, .ref (ix 100))] := by
        have hbe : (alB (fun b => !shX S aM b c && alB (fun o => !paX S qM b o c) 6) k.toNat && !shX S aM k c) = (alB (fun b => !shX S aM b c && alB (fun o => !paX S qM b o c) 6) k.toNat && !shX S aM k c && alB (fun o => !paX S qM k o c) (0 : Int).toNat) := by simp [alB]
        rw [← hbe]; exact hl
      refine lv_istore (lv' := [(4, .int (iI (0))), (2, .int (iI (bI (alB (fun b => !shX S aM b c && alB (fun o => !paX S qM b o c) 6) k.toNat && !shX S aM k c && alB (fun o => !paX S qM k o c) (0 : Int).toNat)))), (3, .int (iI (k))), (1, .int (iI (c))), (0, .ref (ix 100))]) hx hb dX12_fits_30 hl (by decide) rfl (fun ls hl => ?_)
      refine lp_w1 (Wg := fun (H : Heap) (locs : List Loc) (ls : Array Slot) => W p_ l e_ { frames := 2, cells := 0, slots := 0, locals := 46 } s_ m_ ([.ref (ix 100), .int (iI c)] : List Value).toArray be_ me_ co_ H locs 0 0 (MQ be_ (gQ D B0 (fun (r : Option Value) (g : gF) => r = some (.int (iI (bI (fiX S aM qM c)))) ∧ g = mW cy ix S (mX I aM qM tM) G)) ([.ref (ix 100), .int (iI c)] : List Value).toArray s_ 0 0 (fun q : Nat => B0 ≤ q)) (F0 m_ 32 ls [])) (fun (u : Int) (H : Heap) (locs : List Loc) (ls : Array Slot) => (0 ≤ u ∧ u ≤ 6) ∧ gW D B0 s_ (mW cy ix S (mX (I) (aM) (qM) (tM)) G) H locs ∧ lv_has ls 5 [(4, .int (iI (u))), (3, .int (iI (k))), (2, .int (iI (bI (alB (fun b => !shX S aM b c && alB (fun o => !paX S qM b o c) 6) k.toNat && !shX S aM k c && alB (fun o => !paX S qM k o c) u.toNat)))), (1, .int (iI (c))), (0, .ref (ix 100))]) (fun (u : Int) => (6 - u).toNat) (fun u H locs ls hI ih_lp_4 => ?_) (0) _ _ _ ⟨⟨by omega, by omega⟩, hW, lv_sub hl [0, 2, 1, 3, 4] rfl⟩
      obtain ⟨hI_lp_4, hW, hl⟩ := hI
      refine lv_iload hx hb dX12_fits_32 (lv_at hl 0 rfl) ?_
      refine xi_bipush hx hb dX12_fits_34 (by decide) ?_
      refine xi_icmp_ge (tgt := 66) hx hb ⟨by omega, by omega⟩ ⟨by omega, by omega⟩ dX12_fits_36 (by decide) (fun c_5 => ?_) (fun c_5 => ?_)
      · have hl : lv_has ls 5 [(4, .int (iI (u))), (3, .int (iI (k))), (2, .int (iI (bI (alB (fun b => !shX S aM b c && alB (fun o => !paX S qM b o c) 6) (k + 1).toNat)))), (1, .int (iI (c))), (0, .ref (ix 100))] := by
          have hbe : (alB (fun b => !shX S aM b c && alB (fun o => !paX S qM b o c) 6) k.toNat && !shX S aM k c && alB (fun o => !paX S qM k o c) u.toNat) = (alB (fun b => !shX S aM b c && alB (fun o => !paX S qM b o c) 6) (k + 1).toNat) := by rw [show (k + 1).toNat = k.toNat + 1 by omega, show u = 6 by omega, alB_s _ k.toNat, show ((k.toNat : Nat) : Int) = k by omega, Bool.and_assoc]; rfl
          rw [← hbe]; exact hl
        refine xi_iinc (lv' := [(3, .int (iI (k + 1))), (4, .int (iI (u))), (2, .int (iI (bI (alB (fun b => !shX S aM b c && alB (fun o => !paX S qM b o c) 6) (k + 1).toNat)))), (1, .int (iI (c))), (0, .ref (ix 100))]) hx hb dX12_fits_66 hl (k := 1) rfl (by decide) rfl (fun ls hl => ?_)
        refine lv_goto (tgt := 4) hx hb dX12_fits_69 (by decide) ?_
        exact ih_lp_1 (k + 1) _ _ _ (by first | omega | (dsimp only; omega)) ⟨⟨by omega, by omega⟩, hW, lv_sub hl [0, 2, 3, 4] rfl⟩
      · have j_6 : ∀ (zJ : Bool) (H : Heap) (locs : List Loc), zJ = (alB (fun b => !shX S aM b c && alB (fun o => !paX S qM b o c) 6) k.toNat && !shX S aM k c && alB (fun o => !paX S qM k o c) u.toNat && !paX S qM k u c) → gW D B0 s_ (mW cy ix S (mX (I) (aM) (qM) (tM)) G) H locs → W p_ l e_ { frames := 2, cells := 0, slots := 0, locals := 46 } s_ m_ ([.ref (ix 100), .int (iI c)] : List Value).toArray be_ me_ co_ H locs 0 0 (MQ be_ (gQ D B0 (fun (r : Option Value) (g : gF) => r = some (.int (iI (bI (fiX S aM qM c)))) ∧ g = mW cy ix S (mX I aM qM tM) G)) ([.ref (ix 100), .int (iI c)] : List Value).toArray s_ 0 0 (fun q : Nat => B0 ≤ q)) (F0 m_ 59 ls [.int (iI (bI (zJ)))]) := by
          intro zJ H locs hzJ hW
          subst hzJ
          refine lv_istore_n (lv' := [(2, .int (iI (bI (alB (fun b => !shX S aM b c && alB (fun o => !paX S qM b o c) 6) k.toNat && !shX S aM k c && alB (fun o => !paX S qM k o c) u.toNat && !paX S qM k u c)))), (4, .int (iI (u))), (3, .int (iI (k))), (1, .int (iI (c))), (0, .ref (ix 100))]) hx hb dX12_fits_59 rfl hl (by decide) rfl (fun ls hl => ?_)
          have hl : lv_has ls 5 [(2, .int (iI (bI (alB (fun b => !shX S aM b c && alB (fun o => !paX S qM b o c) 6) k.toNat && !shX S aM k c && alB (fun o => !paX S qM k o c) (u + 1).toNat)))), (4, .int (iI (u))), (3, .int (iI (k))), (1, .int (iI (c))), (0, .ref (ix 100))] := by
            have hbe : (alB (fun b => !shX S aM b c && alB (fun o => !paX S qM b o c) 6) k.toNat && !shX S aM k c && alB (fun o => !paX S qM k o c) u.toNat && !paX S qM k u c) = (alB (fun b => !shX S aM b c && alB (fun o => !paX S qM b o c) 6) k.toNat && !shX S aM k c && alB (fun o => !paX S qM k o c) (u + 1).toNat) := by rw [show (u + 1).toNat = u.toNat + 1 by omega, alB_s _ u.toNat, show ((u.toNat : Nat) : Int) = u by omega, ← Bool.and_assoc]
            rw [← hbe]; exact hl
          refine xi_iinc (lv' := [(4, .int (iI (u + 1))), (2, .int (iI (bI (alB (fun b => !shX S aM b c && alB (fun o => !paX S qM b o c) 6) k.toNat && !shX S aM k c && alB (fun o => !paX S qM k o c) (u + 1).toNat)))), (3, .int (iI (k))), (1, .int (iI (c))), (0, .ref (ix 100))]) hx hb dX12_fits_60 hl (k := 1) rfl (by decide) rfl (fun ls hl => ?_)
          refine lv_goto (tgt := 32) hx hb dX12_fits_63 (by decide) ?_
          exact ih_lp_4 (u + 1) _ _ _ (by first | omega | (dsimp only; omega)) ⟨⟨by omega, by omega⟩, hW, lv_sub hl [0, 2, 1, 3, 4] rfl⟩
        refine lv_iload_n hx hb dX12_fits_39 rfl (lv_at hl 2 rfl) ?_
        refine xi_ifb_eq (tgt := 58) hx hb dX12_fits_40 (by decide) (fun c_7 => ?_) (fun c_7 => ?_)
        · refine xi_iconst hx hb dX12_fits_58 ?_
          exact xi_eq (z' := bI (alB (fun b => !shX S aM b c && alB (fun o => !paX S qM b o c) 6) k.toNat && !shX S aM k c && alB (fun o => !paX S qM k o c) u.toNat && !paX S qM k u c)) (bI_f (by simp only [c_2, Int.not_le.mpr c_2, c_5, Int.not_le.mpr c_5, c_7, decide_true, decide_false, Bool.true_and, Bool.and_true, Bool.false_and, Bool.and_false, Bool.true_or, Bool.or_true, Bool.false_or, Bool.or_false, Bool.not_true, Bool.not_false, eq_self])) (j_6 _ _ _ rfl hW)
        · refine lv_aload_n hx hb dX12_fits_43 rfl (lv_at hl 4 rfl) ?_
          refine lv_iload_n hx hb dX12_fits_44 rfl (lv_at hl 1 rfl) ?_
          refine lv_iload hx hb dX12_fits_45 (lv_at hl 0 rfl) ?_
          refine lv_iload_n hx hb dX12_fits_47 rfl (lv_at hl 3 rfl) ?_
          refine g_callV (i := 0) (As := [.int (iI (k)), .int (iI (u)), .int (iI (c))]) (rest := []) K (c_M_isPassed (k) (u) (c) ⟨by omega, by omega⟩ ⟨by omega, by omega⟩ ⟨by omega, by omega⟩ hwf) (cwV 3 hts gM_X12_isPassed rfl rfl rfl (by decide +kernel) ⟨Nat.le_of_ble_eq_true rfl, Nat.le_of_ble_eq_true rfl⟩) hK hW (mW_0 _ _ _ _ _) rfl rfl hl.1 rfl (Nat.le_of_ble_eq_true rfl) dX12_fits_48 ⟨Nat.le_refl _, Nat.le_refl _⟩ (fun v_ f_ H locs hp hW => ?_)
          obtain ⟨hpv, hpe⟩ := hp
          rw [hpe] at hW
          have hpv : v_ = some (.int (iI (bI (paX S qM (k) (u) (c))))) := hpv
          subst hpv
          refine xi_ifb_ne (tgt := 58) hx hb dX12_fits_51 (by decide) (fun c_8 => ?_) (fun c_8 => ?_)
          · refine xi_iconst hx hb dX12_fits_58 ?_
            exact xi_eq (z' := bI (alB (fun b => !shX S aM b c && alB (fun o => !paX S qM b o c) 6) k.toNat && !shX S aM k c && alB (fun o => !paX S qM k o c) u.toNat && !paX S qM k u c)) (bI_f (by simp only [c_2, Int.not_le.mpr c_2, c_5, Int.not_le.mpr c_5, c_7, c_8, decide_true, decide_false, Bool.true_and, Bool.and_true, Bool.false_and, Bool.and_false, Bool.true_or, Bool.or_true, Bool.false_or, Bool.or_false, Bool.not_true, Bool.not_false, eq_self])) (j_6 _ _ _ rfl hW)
          · refine xi_iconst hx hb dX12_fits_54 ?_
            refine lv_goto (tgt := 59) hx hb dX12_fits_55 (by decide) ?_
            exact xi_eq (z' := bI (alB (fun b => !shX S aM b c && alB (fun o => !paX S qM b o c) 6) k.toNat && !shX S aM k c && alB (fun o => !paX S qM k o c) u.toNat && !paX S qM k u c)) (bI_t (by simp only [c_2, Int.not_le.mpr c_2, c_5, Int.not_le.mpr c_5, c_7, c_8, decide_true, decide_false, Bool.true_and, Bool.and_true, Bool.false_and, Bool.and_false, Bool.true_or, Bool.or_true, Bool.false_or, Bool.or_false, Bool.not_true, Bool.not_false, eq_self])) (j_6 _ _ _ rfl hW)
    refine lv_iload_n hx hb dX12_fits_10 rfl (lv_at hl 1 rfl) ?_
    refine xi_ifb_eq (tgt := 27) hx hb dX12_fits_11 (by decide) (fun c_9 => ?_) (fun c_9 => ?_)
    · refine xi_iconst hx hb dX12_fits_27 ?_
      exact xi_eq (z' := bI (alB (fun b => !shX S aM b c && alB (fun o => !paX S qM b o c) 6) k.toNat && !shX S aM k c)) (bI_f (by simp only [c_2, Int.not_le.mpr c_2, c_9, decide_true, decide_false, Bool.true_and, Bool.and_true, Bool.false_and, Bool.and_false, Bool.true_or, Bool.or_true, Bool.false_or, Bool.or_false, Bool.not_true, Bool.not_false, eq_self])) (j_3 _ _ _ rfl hW)
    · refine lv_aload_n hx hb dX12_fits_14 rfl (lv_at hl 3 rfl) ?_
      refine lv_iload_n hx hb dX12_fits_15 rfl (lv_at hl 0 rfl) ?_
      refine lv_iload_n hx hb dX12_fits_16 rfl (lv_at hl 2 rfl) ?_
      refine g_callV (i := 0) (As := [.int (iI (k)), .int (iI (c))]) (rest := []) K (c_M_isShort (k) (c) ⟨by omega, by omega⟩ ⟨by omega, by omega⟩ hwf) (cwV 2 hts gM_X12_isShort rfl rfl rfl (by decide +kernel) ⟨Nat.le_of_ble_eq_true rfl, Nat.le_of_ble_eq_true rfl⟩) hK hW (mW_0 _ _ _ _ _) rfl rfl hl.1 rfl (Nat.le_of_ble_eq_true rfl) dX12_fits_17 ⟨Nat.le_refl _, Nat.le_refl _⟩ (fun v_ f_ H locs hp hW => ?_)
      obtain ⟨hpv, hpe⟩ := hp
      rw [hpe] at hW
      have hpv : v_ = some (.int (iI (bI (shX S aM (k) (c))))) := hpv
      subst hpv
      refine xi_ifb_ne (tgt := 27) hx hb dX12_fits_20 (by decide) (fun c_10 => ?_) (fun c_10 => ?_)
      · refine xi_iconst hx hb dX12_fits_27 ?_
        exact xi_eq (z' := bI (alB (fun b => !shX S aM b c && alB (fun o => !paX S qM b o c) 6) k.toNat && !shX S aM k c)) (bI_f (by simp only [c_2, Int.not_le.mpr c_2, c_9, c_10, decide_true, decide_false, Bool.true_and, Bool.and_true, Bool.false_and, Bool.and_false, Bool.true_or, Bool.or_true, Bool.false_or, Bool.or_false, Bool.not_true, Bool.not_false, eq_self])) (j_3 _ _ _ rfl hW)
      · refine xi_iconst hx hb dX12_fits_23 ?_
        refine lv_goto (tgt := 28) hx hb dX12_fits_24 (by decide) ?_
        exact xi_eq (z' := bI (alB (fun b => !shX S aM b c && alB (fun o => !paX S qM b o c) 6) k.toNat && !shX S aM k c)) (bI_t (by simp only [c_2, Int.not_le.mpr c_2, c_9, c_10, decide_true, decide_false, Bool.true_and, Bool.and_true, Bool.false_and, Bool.and_false, Bool.true_or, Bool.or_true, Bool.false_or, Bool.or_false, Bool.not_true, Bool.not_false, eq_self])) (j_3 _ _ _ rfl hW)
