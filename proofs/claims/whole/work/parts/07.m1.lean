/-! the words of the reference's small methods -/
def sOpen (S : ST) (c d : Int) : Bool := decide (d % 7 < 5) && decide (S.1 6 (1000 * c + d) = 0)
def sEnds (S : ST) (k : Int) : Bool := decide (S.1 18 k = 4) || decide (S.1 18 k = 5)
def sIn (v a b : Int) : Bool := decide (a ≤ v) && decide (v ≤ b)
def sEnt (S : ST) (b o c : Int) (v : Int64) (k : Int) : ST := pI (pL (pL (pL (pL (pL S 32 (5 * S.1 31 0) (Int64.ofInt b)) 32 (5 * S.1 31 0 + 1) (Int64.ofInt o)) 32 (5 * S.1 31 0 + 2) (Int64.ofInt c)) 32 (5 * S.1 31 0 + 3) v) 32 (5 * S.1 31 0 + 4) (Int64.ofInt k)) 31 0 (S.1 31 0 + 1)
def sLess (S : ST) (b c : Int) (v : Int64) : ST := (S.1, if b = -1 then S.2 else (pL S 1 (3 * b + c) (S.2 1 (3 * b + c) - v)).2)
theorem sLess_t {S : ST} {b c : Int} {v : Int64} (h : b = -1) : sLess S b c v = S := by
  unfold sLess
  rw [if_pos h]
theorem sLess_f {S : ST} {b c : Int} {v : Int64} (h : ¬ b = -1) : sLess S b c v = pL S 1 (3 * b + c) (S.2 1 (3 * b + c) - v) := by
  unfold sLess
  rw [if_neg h]
  rfl
def sMore (S : ST) (o c : Int) (v : Int64) : ST := pL S 1 (3 * o + c) (S.2 1 (3 * o + c) + v)
/-- an entry of the book -/
def sBook (S : ST) (b o c : Int) (v : Int64) (k : Int) : ST := sMore (sLess (sEnt S b o c v k) b c v) o c v
/-- which exception a call throws -/
def sGo (a b d : Bool) : Int := if a = false then 1 else if b = false then 2 else if d = false then 3 else 0
set_option maxHeartbeats 4000000 in
set_option maxRecDepth 100000 in
theorem c_M_thrown {l : Launch} {D : va_G} {cy : Nat → ClassId} {B0 : Nat} {ix : Nat → Nat} {S : ST} {I : Int → Bool} {aM qM : Int → Int64} {tM : Int} {G : gF}   : gM l yX12_thrown vX12_thrown 0 0 D cy B0 [.ref (ix 100)] (mW cy ix S (mX I aM qM tM) G) (fun r g => r = some (.int (iI (tM))) ∧ g = mW cy ix S (mX I aM qM tM) G) 0 0 := by
  refine g_start (cc := cX12_thrown) (maxL := 1) (ret := (some .int)) (by decide) rfl (Nat.le_of_ble_eq_true rfl) ?_
  intro p_ e_ s_ m_ be_ me_ co_ ls H locs K hr hlk hnm hK hW hl
  have hin : ∀ w ∈ wsX120, w ∈ vX12_thrown := wsM_cls
  obtain ⟨hx, hb, hml, hown, hts⟩ := id K
  have hl : lv_has ls 1 [(0, .ref (ix 100))] := hl
  refine lv_aload_n hx hb dX12_thrown_0 rfl (lv_at hl 0 rfl) ?_
  refine mr_get K hK hW hin 36 (by decide) lM_thrown (v := .int (iI (tM))) rfl dX12_thrown_1 ?_
  exact g_iret hx hb hr hW ⟨rfl, rfl⟩ dX12_thrown_4 hlk
set_option maxHeartbeats 4000000 in
set_option maxRecDepth 100000 in
theorem c_M_in {l : Launch} {D : va_G} {cy : Nat → ClassId} {B0 : Nat} {f : gF} (v : Int) (a : Int) (b : Int) (hv : rI v) (ha : rI a) (hb0 : rI b) : gM l yX12_in vX12_in 0 0 D cy B0 [.int (iI v), .int (iI a), .int (iI b)] (f) (fun r g => r = some (.int (iI (bI (sIn v a b)))) ∧ g = f) 0 0 := by
  refine g_start (cc := cX12_in) (maxL := 3) (ret := (some .boolean)) (by decide) rfl (Nat.le_of_ble_eq_true rfl) ?_
  intro p_ e_ s_ m_ be_ me_ co_ ls H locs K hr hlk hnm hK hW hl
  obtain ⟨hx, hb, hml, hown, hts⟩ := id K
  have hl : lv_has ls 3 [(0, .int (iI (v))), (1, .int (iI (a))), (2, .int (iI (b)))] := hl
  refine lv_iload_n hx hb dX12_in_0 rfl (lv_at hl 0 rfl) ?_
  refine lv_iload_n hx hb dX12_in_1 rfl (lv_at hl 1 rfl) ?_
  refine xi_icmp_lt (tgt := 14) hx hb ⟨by omega, by omega⟩ ⟨by omega, by omega⟩ dX12_in_2 (by decide) (fun c_1 => ?_) (fun c_1 => ?_)
  · refine xi_iconst hx hb dX12_in_14 ?_
    exact g_zret hx hb hr (Or.inl rfl) hW ⟨congrArg (fun z => some (Value.int (iI z))) (bI_f (by simp only [sIn, Bool.and_eq_true, Bool.or_eq_true, Bool.and_eq_false_iff, Bool.or_eq_false_iff, decide_eq_true_eq, decide_eq_false_iff_not, Bool.not_eq_true, Bool.not_eq_false]; omega)), rfl⟩ dX12_in_15 hlk
  · refine lv_iload_n hx hb dX12_in_5 rfl (lv_at hl 0 rfl) ?_
    refine lv_iload_n hx hb dX12_in_6 rfl (lv_at hl 2 rfl) ?_
    refine xi_icmp_gt (tgt := 14) hx hb ⟨by omega, by omega⟩ ⟨by omega, by omega⟩ dX12_in_7 (by decide) (fun c_2 => ?_) (fun c_2 => ?_)
    · refine xi_iconst hx hb dX12_in_14 ?_
      exact g_zret hx hb hr (Or.inl rfl) hW ⟨congrArg (fun z => some (Value.int (iI z))) (bI_f (by simp only [sIn, Bool.and_eq_true, Bool.or_eq_true, Bool.and_eq_false_iff, Bool.or_eq_false_iff, decide_eq_true_eq, decide_eq_false_iff_not, Bool.not_eq_true, Bool.not_eq_false]; omega)), rfl⟩ dX12_in_15 hlk
    · refine xi_iconst hx hb dX12_in_10 ?_
      refine lv_goto (tgt := 15) hx hb dX12_in_11 (by decide) ?_
      exact g_zret hx hb hr (Or.inr rfl) hW ⟨congrArg (fun z => some (Value.int (iI z))) (bI_t (by simp only [sIn, Bool.and_eq_true, Bool.or_eq_true, Bool.and_eq_false_iff, Bool.or_eq_false_iff, decide_eq_true_eq, decide_eq_false_iff_not, Bool.not_eq_true, Bool.not_eq_false]; omega)), rfl⟩ dX12_in_15 hlk
set_option maxHeartbeats 4000000 in
set_option maxRecDepth 100000 in
theorem c_M_isBank {l : Launch} {D : va_G} {cy : Nat → ClassId} {B0 : Nat} {f : gF} (v : Int) (hv : rI v) : gM l yX12_isBank vX12_isBank 1 22 D cy B0 [.int (iI v)] (f) (fun r g => r = some (.int (iI (bI (sIn v 0 5)))) ∧ g = f) 0 0 := by
  refine g_start (cc := cX12_isBank) (maxL := 1) (ret := (some .boolean)) (by decide) rfl (Nat.le_of_ble_eq_true rfl) ?_
  intro p_ e_ s_ m_ be_ me_ co_ ls H locs K hr hlk hnm hK hW hl
  obtain ⟨hx, hb, hml, hown, hts⟩ := id K
  have hl : lv_has ls 1 [(0, .int (iI (v)))] := hl
  refine lv_iload_n hx hb dX12_isBank_0 rfl (lv_at hl 0 rfl) ?_
  refine xi_iconst hx hb dX12_isBank_1 ?_
  refine xi_iconst hx hb dX12_isBank_2 ?_
  refine g_callS (As := [.int (iI (v)), .int (iI (0)), .int (iI (5))]) (rest := []) K (c_M_in (v) (0) (5) hv ⟨by omega, by omega⟩ ⟨by omega, by omega⟩) (va_cwS 3 hts gM_X12_in rfl rfl rfl (by decide +kernel) ⟨Nat.le_of_ble_eq_true rfl, Nat.le_of_ble_eq_true rfl⟩) hK hW rfl hl.1 rfl (Nat.le_of_ble_eq_true rfl) dX12_isBank_3 ⟨Nat.le_refl _, Nat.le_refl _⟩ (fun v_ f_ H locs hp hW => ?_)
  obtain ⟨hpv, hpe⟩ := hp
  rw [hpe] at hW
  subst hpv
  exact g_zret hx hb hr (bI_01 _) hW ⟨by rfl, rfl⟩ dX12_isBank_6 hlk
set_option maxHeartbeats 4000000 in
set_option maxRecDepth 100000 in
theorem c_M_isCurrency {l : Launch} {D : va_G} {cy : Nat → ClassId} {B0 : Nat} {f : gF} (v : Int) (hv : rI v) : gM l yX12_isCurrency vX12_isCurrency 1 22 D cy B0 [.int (iI v)] (f) (fun r g => r = some (.int (iI (bI (sIn v 0 2)))) ∧ g = f) 0 0 := by
  refine g_start (cc := cX12_isCurrency) (maxL := 1) (ret := (some .boolean)) (by decide) rfl (Nat.le_of_ble_eq_true rfl) ?_
  intro p_ e_ s_ m_ be_ me_ co_ ls H locs K hr hlk hnm hK hW hl
  obtain ⟨hx, hb, hml, hown, hts⟩ := id K
  have hl : lv_has ls 1 [(0, .int (iI (v)))] := hl
  refine lv_iload_n hx hb dX12_isCurrency_0 rfl (lv_at hl 0 rfl) ?_
  refine xi_iconst hx hb dX12_isCurrency_1 ?_
  refine xi_iconst hx hb dX12_isCurrency_2 ?_
  refine g_callS (As := [.int (iI (v)), .int (iI (0)), .int (iI (2))]) (rest := []) K (c_M_in (v) (0) (2) hv ⟨by omega, by omega⟩ ⟨by omega, by omega⟩) (va_cwS 3 hts gM_X12_in rfl rfl rfl (by decide +kernel) ⟨Nat.le_of_ble_eq_true rfl, Nat.le_of_ble_eq_true rfl⟩) hK hW rfl hl.1 rfl (Nat.le_of_ble_eq_true rfl) dX12_isCurrency_3 ⟨Nat.le_refl _, Nat.le_refl _⟩ (fun v_ f_ H locs hp hW => ?_)
  obtain ⟨hpv, hpe⟩ := hp
  rw [hpe] at hW
  subst hpv
  exact g_zret hx hb hr (bI_01 _) hW ⟨by rfl, rfl⟩ dX12_isCurrency_6 hlk
set_option maxHeartbeats 4000000 in
set_option maxRecDepth 100000 in
theorem c_M_isName {l : Launch} {D : va_G} {cy : Nat → ClassId} {B0 : Nat} {f : gF} (v : Int) (hv : rI v) : gM l yX12_isName vX12_isName 1 22 D cy B0 [.int (iI v)] (f) (fun r g => r = some (.int (iI (bI (sIn v 0 19)))) ∧ g = f) 0 0 := by
  refine g_start (cc := cX12_isName) (maxL := 1) (ret := (some .boolean)) (by decide) rfl (Nat.le_of_ble_eq_true rfl) ?_
  intro p_ e_ s_ m_ be_ me_ co_ ls H locs K hr hlk hnm hK hW hl
  obtain ⟨hx, hb, hml, hown, hts⟩ := id K
  have hl : lv_has ls 1 [(0, .int (iI (v)))] := hl
  refine lv_iload_n hx hb dX12_isName_0 rfl (lv_at hl 0 rfl) ?_
  refine xi_iconst hx hb dX12_isName_1 ?_
  refine xi_bipush hx hb dX12_isName_2 (by decide) ?_
  refine g_callS (As := [.int (iI (v)), .int (iI (0)), .int (iI (19))]) (rest := []) K (c_M_in (v) (0) (19) hv ⟨by omega, by omega⟩ ⟨by omega, by omega⟩) (va_cwS 3 hts gM_X12_in rfl rfl rfl (by decide +kernel) ⟨Nat.le_of_ble_eq_true rfl, Nat.le_of_ble_eq_true rfl⟩) hK hW rfl hl.1 rfl (Nat.le_of_ble_eq_true rfl) dX12_isName_4 ⟨Nat.le_refl _, Nat.le_refl _⟩ (fun v_ f_ H locs hp hW => ?_)
  obtain ⟨hpv, hpe⟩ := hp
  rw [hpe] at hW
  subst hpv
  exact g_zret hx hb hr (bI_01 _) hW ⟨by rfl, rfl⟩ dX12_isName_7 hlk
set_option maxHeartbeats 4000000 in
set_option maxRecDepth 100000 in
theorem c_M_isAccount {l : Launch} {D : va_G} {cy : Nat → ClassId} {B0 : Nat} {f : gF} (v : Int) (hv : rI v) : gM l yX12_isAccount vX12_isAccount 1 22 D cy B0 [.int (iI v)] (f) (fun r g => r = some (.int (iI (bI (sIn v 0 6)))) ∧ g = f) 0 0 := by
  refine g_start (cc := cX12_isAccount) (maxL := 1) (ret := (some .boolean)) (by decide) rfl (Nat.le_of_ble_eq_true rfl) ?_
  intro p_ e_ s_ m_ be_ me_ co_ ls H locs K hr hlk hnm hK hW hl
  obtain ⟨hx, hb, hml, hown, hts⟩ := id K
  have hl : lv_has ls 1 [(0, .int (iI (v)))] := hl
  refine lv_iload_n hx hb dX12_isAccount_0 rfl (lv_at hl 0 rfl) ?_
  refine xi_iconst hx hb dX12_isAccount_1 ?_
  refine xi_bipush hx hb dX12_isAccount_2 (by decide) ?_
  refine g_callS (As := [.int (iI (v)), .int (iI (0)), .int (iI (6))]) (rest := []) K (c_M_in (v) (0) (6) hv ⟨by omega, by omega⟩ ⟨by omega, by omega⟩) (va_cwS 3 hts gM_X12_in rfl rfl rfl (by decide +kernel) ⟨Nat.le_of_ble_eq_true rfl, Nat.le_of_ble_eq_true rfl⟩) hK hW rfl hl.1 rfl (Nat.le_of_ble_eq_true rfl) dX12_isAccount_4 ⟨Nat.le_refl _, Nat.le_refl _⟩ (fun v_ f_ H locs hp hW => ?_)
  obtain ⟨hpv, hpe⟩ := hp
  rw [hpe] at hW
  subst hpv
  exact g_zret hx hb hr (bI_01 _) hW ⟨by rfl, rfl⟩ dX12_isAccount_7 hlk
set_option maxHeartbeats 4000000 in
set_option maxRecDepth 100000 in
theorem c_M_isPayment {l : Launch} {D : va_G} {cy : Nat → ClassId} {B0 : Nat} {ix : Nat → Nat} {S : ST} {I : Int → Bool} {aM qM : Int → Int64} {tM : Int} {G : gF} (v : Int) (hv : rI v) (hwf : wf S) : gM l yX12_isPayment vX12_isPayment 1 22 D cy B0 [.ref (ix 100), .int (iI v)] (mW cy ix S (mX I aM qM tM) G) (fun r g => r = some (.int (iI (bI (sIn v 0 (S.1 8 0 - 1))))) ∧ g = mW cy ix S (mX I aM qM tM) G) 0 0 := by
  refine g_start (cc := cX12_isPayment) (maxL := 2) (ret := (some .boolean)) (by decide) rfl (Nat.le_of_ble_eq_true rfl) ?_
  intro p_ e_ s_ m_ be_ me_ co_ ls H locs K hr hlk hnm hK hW hl
  have hin : ∀ w ∈ wsX120, w ∈ vX12_isPayment := wsM_cls
  obtain ⟨hx, hb, hml, hown, hts⟩ := id K
  have hl : lv_has ls 2 [(0, .ref (ix 100)), (1, .int (iI (v)))] := hl
  refine lv_iload_n hx hb dX12_isPayment_0 rfl (lv_at hl 1 rfl) ?_
  refine xi_iconst hx hb dX12_isPayment_1 ?_
  refine lv_aload_n hx hb dX12_isPayment_2 rfl (lv_at hl 0 rfl) ?_
  refine mr_get K hK hW hin 8 (by decide) lM_payments (v := .int (iI (S.1 8 (0)))) rfl dX12_isPayment_3 ?_
  have w_w_1 := wf_8 hwf 0
  refine xi_iconst hx hb dX12_isPayment_6 ?_
  refine xi_isub hx hb dX12_isPayment_7 ?_
  refine g_callS (As := [.int (iI (v)), .int (iI (0)), .int (iI ((S.1 8 (0)) - 1))]) (rest := []) K (c_M_in (v) (0) ((S.1 8 (0)) - 1) hv ⟨by omega, by omega⟩ ⟨by omega, by omega⟩) (va_cwS 3 hts gM_X12_in rfl rfl rfl (by decide +kernel) ⟨Nat.le_of_ble_eq_true rfl, Nat.le_of_ble_eq_true rfl⟩) hK hW rfl hl.1 rfl (Nat.le_of_ble_eq_true rfl) dX12_isPayment_8 ⟨Nat.le_refl _, Nat.le_refl _⟩ (fun v_ f_ H locs hp hW => ?_)
  obtain ⟨hpv, hpe⟩ := hp
  rw [hpe] at hW
  subst hpv
  exact g_zret hx hb hr (bI_01 _) hW ⟨by rfl, rfl⟩ dX12_isPayment_11 hlk
set_option maxHeartbeats 4000000 in
set_option maxRecDepth 100000 in
theorem c_M_of {l : Launch} {D : va_G} {cy : Nat → ClassId} {B0 : Nat} {f : gF} (b : Int) (c : Int)  : gM l yX12_of vX12_of 0 0 D cy B0 [.int (iI b), .int (iI c)] (f) (fun r g => r = some (.int (iI (3 * b + c))) ∧ g = f) 0 0 := by
  refine g_start (cc := cX12_of) (maxL := 2) (ret := (some .int)) (by decide) rfl (Nat.le_of_ble_eq_true rfl) ?_
  intro p_ e_ s_ m_ be_ me_ co_ ls H locs K hr hlk hnm hK hW hl
  obtain ⟨hx, hb, hml, hown, hts⟩ := id K
  have hl : lv_has ls 2 [(0, .int (iI (b))), (1, .int (iI (c)))] := hl
  refine xi_iconst hx hb dX12_of_0 ?_
  refine lv_iload_n hx hb dX12_of_1 rfl (lv_at hl 0 rfl) ?_
  refine xi_imul hx hb dX12_of_2 ?_
  refine lv_iload_n hx hb dX12_of_3 rfl (lv_at hl 1 rfl) ?_
  refine xi_iadd hx hb dX12_of_4 ?_
  exact g_iret hx hb hr hW ⟨rfl, rfl⟩ dX12_of_5 hlk
set_option maxHeartbeats 4000000 in
set_option maxRecDepth 100000 in
theorem c_M_pair {l : Launch} {D : va_G} {cy : Nat → ClassId} {B0 : Nat} {f : gF} (b : Int) (o : Int) (c : Int)  : gM l yX12_pair vX12_pair 0 0 D cy B0 [.int (iI b), .int (iI o), .int (iI c)] (f) (fun r g => r = some (.int (iI (3 * (6 * b + o) + c))) ∧ g = f) 0 0 := by
  refine g_start (cc := cX12_pair) (maxL := 3) (ret := (some .int)) (by decide) rfl (Nat.le_of_ble_eq_true rfl) ?_
  intro p_ e_ s_ m_ be_ me_ co_ ls H locs K hr hlk hnm hK hW hl
  obtain ⟨hx, hb, hml, hown, hts⟩ := id K
  have hl : lv_has ls 3 [(0, .int (iI (b))), (1, .int (iI (o))), (2, .int (iI (c)))] := hl
  refine xi_iconst hx hb dX12_pair_0 ?_
  refine xi_bipush hx hb dX12_pair_1 (by decide) ?_
  refine lv_iload_n hx hb dX12_pair_3 rfl (lv_at hl 0 rfl) ?_
  refine xi_imul hx hb dX12_pair_4 ?_
  refine lv_iload_n hx hb dX12_pair_5 rfl (lv_at hl 1 rfl) ?_
  refine xi_iadd hx hb dX12_pair_6 ?_
  refine xi_imul hx hb dX12_pair_7 ?_
  refine lv_iload_n hx hb dX12_pair_8 rfl (lv_at hl 2 rfl) ?_
  refine xi_iadd hx hb dX12_pair_9 ?_
  exact g_iret hx hb hr hW ⟨rfl, rfl⟩ dX12_pair_10 hlk
set_option maxHeartbeats 4000000 in
set_option maxRecDepth 100000 in
theorem c_M_isOpen {l : Launch} {D : va_G} {cy : Nat → ClassId} {B0 : Nat} {ix : Nat → Nat} {S : ST} {I : Int → Bool} {aM qM : Int → Int64} {tM : Int} {G : gF} (c : Int) (d : Int) (hc : 0 ≤ c ∧ c ≤ 2) (hd : 0 ≤ d ∧ d ≤ 999) (hwf : wf S) : gM l yX12_isOpen vX12_isOpen 0 0 D cy B0 [.ref (ix 100), .int (iI c), .int (iI d)] (mW cy ix S (mX I aM qM tM) G) (fun r g => r = some (.int (iI (bI (sOpen S c d)))) ∧ g = mW cy ix S (mX I aM qM tM) G) 0 0 := by
  refine g_start (cc := cX12_isOpen) (maxL := 3) (ret := (some .boolean)) (by decide) rfl (Nat.le_of_ble_eq_true rfl) ?_
  intro p_ e_ s_ m_ be_ me_ co_ ls H locs K hr hlk hnm hK hW hl
  have hin : ∀ w ∈ wsX120, w ∈ vX12_isOpen := wsM_cls
  obtain ⟨hx, hb, hml, hown, hts⟩ := id K
  have hl : lv_has ls 3 [(0, .ref (ix 100)), (1, .int (iI (c))), (2, .int (iI (d)))] := hl
  refine lv_iload_n hx hb dX12_isOpen_0 rfl (lv_at hl 2 rfl) ?_
  refine xi_bipush hx hb dX12_isOpen_1 (by decide) ?_
  refine xi_irem hx hb ⟨by omega, by omega⟩ ⟨by omega, by omega⟩ dX12_isOpen_3 ?_
  refine xi_iconst hx hb dX12_isOpen_4 ?_
  refine xi_icmp_ge (tgt := 27) hx hb ⟨by omega, by omega⟩ ⟨by omega, by omega⟩ dX12_isOpen_5 (by decide) (fun c_1 => ?_) (fun c_1 => ?_)
  · refine xi_iconst hx hb dX12_isOpen_27 ?_
    exact g_zret hx hb hr (Or.inl rfl) hW ⟨congrArg (fun z => some (Value.int (iI z))) (bI_f (by simp only [sOpen, Bool.and_eq_true, Bool.or_eq_true, Bool.and_eq_false_iff, Bool.or_eq_false_iff, decide_eq_true_eq, decide_eq_false_iff_not, Bool.not_eq_true, Bool.not_eq_false]; omega)), rfl⟩ dX12_isOpen_28 hlk
  · refine lv_aload_n hx hb dX12_isOpen_8 rfl (lv_at hl 0 rfl) ?_
    refine mr_get K hK hW hin 6 (by decide) lM_isHoliday (v := .ref (ix 106)) rfl dX12_isOpen_9 ?_
    refine xi_sipush hx hb dX12_isOpen_12 (by decide) ?_
    refine lv_iload_n hx hb dX12_isOpen_15 rfl (lv_at hl 1 rfl) ?_
    refine xi_imul hx hb dX12_isOpen_16 ?_
    refine lv_iload_n hx hb dX12_isOpen_17 rfl (lv_at hl 2 rfl) ?_
    refine xi_iadd hx hb dX12_isOpen_18 ?_
    refine mr_zald K hK hW 6 (by decide) rfl (n := 3000) rfl rfl ⟨by omega, by omega⟩ (v := S.1 6 ((1000 * c) + d)) rfl dX12_isOpen_19 ?_
    have w_2 := wf_6 hwf ((1000 * c) + d)
    refine xi_if_ne (tgt := 27) hx hb ⟨by omega, by omega⟩ dX12_isOpen_20 (by decide) (fun c_3 => ?_) (fun c_3 => ?_)
    · refine xi_iconst hx hb dX12_isOpen_27 ?_
      exact g_zret hx hb hr (Or.inl rfl) hW ⟨congrArg (fun z => some (Value.int (iI z))) (bI_f (by simp only [sOpen, Bool.and_eq_true, Bool.or_eq_true, Bool.and_eq_false_iff, Bool.or_eq_false_iff, decide_eq_true_eq, decide_eq_false_iff_not, Bool.not_eq_true, Bool.not_eq_false]; omega)), rfl⟩ dX12_isOpen_28 hlk
    · refine xi_iconst hx hb dX12_isOpen_23 ?_
      refine lv_goto (tgt := 28) hx hb dX12_isOpen_24 (by decide) ?_
      exact g_zret hx hb hr (Or.inr rfl) hW ⟨congrArg (fun z => some (Value.int (iI z))) (bI_t (by simp only [sOpen, Bool.and_eq_true, Bool.or_eq_true, Bool.and_eq_false_iff, Bool.or_eq_false_iff, decide_eq_true_eq, decide_eq_false_iff_not, Bool.not_eq_true, Bool.not_eq_false]; omega)), rfl⟩ dX12_isOpen_28 hlk
set_option maxHeartbeats 4000000 in
set_option maxRecDepth 100000 in
theorem c_M_ends {l : Launch} {D : va_G} {cy : Nat → ClassId} {B0 : Nat} {ix : Nat → Nat} {S : ST} {I : Int → Bool} {aM qM : Int → Int64} {tM : Int} {G : gF} (k : Int) (hk : 0 ≤ k ∧ k ≤ 59) (hwf : wf S) : gM l yX12_ends vX12_ends 0 0 D cy B0 [.ref (ix 100), .int (iI k)] (mW cy ix S (mX I aM qM tM) G) (fun r g => r = some (.int (iI (bI (sEnds S k)))) ∧ g = mW cy ix S (mX I aM qM tM) G) 0 0 := by
  refine g_start (cc := cX12_ends) (maxL := 2) (ret := (some .boolean)) (by decide) rfl (Nat.le_of_ble_eq_true rfl) ?_
  intro p_ e_ s_ m_ be_ me_ co_ ls H locs K hr hlk hnm hK hW hl
  have hin : ∀ w ∈ wsX120, w ∈ vX12_ends := wsM_cls
  obtain ⟨hx, hb, hml, hown, hts⟩ := id K
  have hl : lv_has ls 2 [(0, .ref (ix 100)), (1, .int (iI (k)))] := hl
  refine lv_aload_n hx hb dX12_ends_0 rfl (lv_at hl 0 rfl) ?_
  refine mr_get K hK hW hin 18 (by decide) lM_state (v := .ref (ix 118)) rfl dX12_ends_1 ?_
  refine lv_iload_n hx hb dX12_ends_4 rfl (lv_at hl 1 rfl) ?_
  refine mr_iald K hK hW 18 (by decide) rfl (n := 60) rfl rfl ⟨by omega, by omega⟩ (v := S.1 18 (k)) rfl dX12_ends_5 ?_
  have w_1 := wf_18 hwf (k)
  refine xi_iconst hx hb dX12_ends_6 ?_
  refine xi_icmp_eq (tgt := 20) hx hb ⟨by omega, by omega⟩ ⟨by omega, by omega⟩ dX12_ends_7 (by decide) (fun c_2 => ?_) (fun c_2 => ?_)
  · refine xi_iconst hx hb dX12_ends_20 ?_
    refine lv_goto (tgt := 25) hx hb dX12_ends_21 (by decide) ?_
    exact g_zret hx hb hr (Or.inr rfl) hW ⟨congrArg (fun z => some (Value.int (iI z))) (bI_t (by simp only [sEnds, Bool.and_eq_true, Bool.or_eq_true, Bool.and_eq_false_iff, Bool.or_eq_false_iff, decide_eq_true_eq, decide_eq_false_iff_not, Bool.not_eq_true, Bool.not_eq_false]; omega)), rfl⟩ dX12_ends_25 hlk
  · refine lv_aload_n hx hb dX12_ends_10 rfl (lv_at hl 0 rfl) ?_
    refine mr_get K hK hW hin 18 (by decide) lM_state (v := .ref (ix 118)) rfl dX12_ends_11 ?_
    refine lv_iload_n hx hb dX12_ends_14 rfl (lv_at hl 1 rfl) ?_
    refine mr_iald K hK hW 18 (by decide) rfl (n := 60) rfl rfl ⟨by omega, by omega⟩ (v := S.1 18 (k)) rfl dX12_ends_15 ?_
    have w_3 := wf_18 hwf (k)
    refine xi_iconst hx hb dX12_ends_16 ?_
    refine xi_icmp_ne (tgt := 24) hx hb ⟨by omega, by omega⟩ ⟨by omega, by omega⟩ dX12_ends_17 (by decide) (fun c_4 => ?_) (fun c_4 => ?_)
    · refine xi_iconst hx hb dX12_ends_24 ?_
      exact g_zret hx hb hr (Or.inl rfl) hW ⟨congrArg (fun z => some (Value.int (iI z))) (bI_f (by simp only [sEnds, Bool.and_eq_true, Bool.or_eq_true, Bool.and_eq_false_iff, Bool.or_eq_false_iff, decide_eq_true_eq, decide_eq_false_iff_not, Bool.not_eq_true, Bool.not_eq_false]; omega)), rfl⟩ dX12_ends_25 hlk
    · refine xi_iconst hx hb dX12_ends_20 ?_
      refine lv_goto (tgt := 25) hx hb dX12_ends_21 (by decide) ?_
      exact g_zret hx hb hr (Or.inr rfl) hW ⟨congrArg (fun z => some (Value.int (iI z))) (bI_t (by simp only [sEnds, Bool.and_eq_true, Bool.or_eq_true, Bool.and_eq_false_iff, Bool.or_eq_false_iff, decide_eq_true_eq, decide_eq_false_iff_not, Bool.not_eq_true, Bool.not_eq_false]; omega)), rfl⟩ dX12_ends_25 hlk
set_option maxHeartbeats 4000000 in
set_option maxRecDepth 100000 in
theorem c_M_books {l : Launch} {D : va_G} {cy : Nat → ClassId} {B0 : Nat} {ix : Nat → Nat} {S : ST} {I : Int → Bool} {aM qM : Int → Int64} {tM : Int} {G : gF} (b : Int) (o : Int) (c : Int) (v : Int64) (k : Int) (hb0 : -1 ≤ b ∧ b ≤ 6) (ho : 0 ≤ o ∧ o ≤ 6) (hc : 0 ≤ c ∧ c ≤ 2) (hk : -1 ≤ k ∧ k ≤ 59) (hwf : wf S) : gM l yX12_books vX12_books 1 21 D cy B0 [.ref (ix 100), .int (iI b), .int (iI o), .int (iI c), .long v, .int (iI k)] (mW cy ix S (mX I aM qM tM) G) (fun r g => r = none ∧ g = mW cy ix (sBook S b o c v k) (mX I aM qM tM) G) 0 0 := by
  refine g_start (cc := cX12_books) (maxL := 7) (ret := none) (by decide) rfl (Nat.le_of_ble_eq_true rfl) ?_
  intro p_ e_ s_ m_ be_ me_ co_ ls H locs K hr hlk hnm hK hW hl
  have hin : ∀ w ∈ wsX120, w ∈ vX12_books := wsM_cls
  obtain ⟨hx, hb, hml, hown, hts⟩ := id K
  have hl : lv_has ls 7 [(0, .ref (ix 100)), (1, .int (iI (b))), (2, .int (iI (o))), (3, .int (iI (c))), (4, .long (v)), (6, .int (iI (k)))] := hl
  refine lv_aload_n hx hb dX12_books_0 rfl (lv_at hl 0 rfl) ?_
  refine mr_get K hK hW hin 32 (by decide) lM_entry (v := .ref (ix 132)) rfl dX12_books_1 ?_
  refine xi_iconst hx hb dX12_books_4 ?_
  refine lv_aload_n hx hb dX12_books_5 rfl (lv_at hl 0 rfl) ?_
  refine mr_get K hK hW hin 31 (by decide) lM_entries (v := .int (iI (S.1 31 (0)))) rfl dX12_books_6 ?_
  have w_w_1 := wf_31 hwf 0
  refine xi_imul hx hb dX12_books_9 ?_
  refine lv_iload_n hx hb dX12_books_10 rfl (lv_at hl 1 rfl) ?_
  refine xi_i2l hx hb ⟨by omega, by omega⟩ dX12_books_11 ?_
  refine mr_last K hK hW 32 (by decide) rfl (by decide) (n := 150000) rfl rfl ⟨by omega, by omega⟩ dX12_books_12 (fun H locs hW => ?_)
  refine lv_aload_n hx hb dX12_books_13 rfl (lv_at hl 0 rfl) ?_
  refine mr_get K hK hW hin 32 (by decide) lM_entry (v := .ref (ix 132)) rfl dX12_books_14 ?_
  refine xi_iconst hx hb dX12_books_17 ?_
  refine lv_aload_n hx hb dX12_books_18 rfl (lv_at hl 0 rfl) ?_
  refine mr_get K hK hW hin 31 (by decide) lM_entries (v := .int (iI (S.1 31 (0)))) rfl dX12_books_19 ?_
  have w_w_2 := wf_31 hwf 0
  refine xi_imul hx hb dX12_books_22 ?_
  refine xi_iconst hx hb dX12_books_23 ?_
  refine xi_iadd hx hb dX12_books_24 ?_
  refine lv_iload_n hx hb dX12_books_25 rfl (lv_at hl 2 rfl) ?_
  refine xi_i2l hx hb ⟨by omega, by omega⟩ dX12_books_26 ?_
  refine mr_last K hK hW 32 (by decide) rfl (by decide) (n := 150000) rfl rfl ⟨by omega, by omega⟩ dX12_books_27 (fun H locs hW => ?_)
  refine lv_aload_n hx hb dX12_books_28 rfl (lv_at hl 0 rfl) ?_
  refine mr_get K hK hW hin 32 (by decide) lM_entry (v := .ref (ix 132)) rfl dX12_books_29 ?_
  refine xi_iconst hx hb dX12_books_32 ?_
  refine lv_aload_n hx hb dX12_books_33 rfl (lv_at hl 0 rfl) ?_
  refine mr_get K hK hW hin 31 (by decide) lM_entries (v := .int (iI (S.1 31 (0)))) rfl dX12_books_34 ?_
  have w_w_3 := wf_31 hwf 0
  refine xi_imul hx hb dX12_books_37 ?_
  refine xi_iconst hx hb dX12_books_38 ?_
  refine xi_iadd hx hb dX12_books_39 ?_
  refine lv_iload_n hx hb dX12_books_40 rfl (lv_at hl 3 rfl) ?_
  refine xi_i2l hx hb ⟨by omega, by omega⟩ dX12_books_41 ?_
  refine mr_last K hK hW 32 (by decide) rfl (by decide) (n := 150000) rfl rfl ⟨by omega, by omega⟩ dX12_books_42 (fun H locs hW => ?_)
  refine lv_aload_n hx hb dX12_books_43 rfl (lv_at hl 0 rfl) ?_
  refine mr_get K hK hW hin 32 (by decide) lM_entry (v := .ref (ix 132)) rfl dX12_books_44 ?_
  refine xi_iconst hx hb dX12_books_47 ?_
  refine lv_aload_n hx hb dX12_books_48 rfl (lv_at hl 0 rfl) ?_
  refine mr_get K hK hW hin 31 (by decide) lM_entries (v := .int (iI (S.1 31 (0)))) rfl dX12_books_49 ?_
  have w_w_4 := wf_31 hwf 0
  refine xi_imul hx hb dX12_books_52 ?_
  refine xi_iconst hx hb dX12_books_53 ?_
  refine xi_iadd hx hb dX12_books_54 ?_
  refine lv_lload hx hb dX12_books_55 (lv_at hl 4 rfl) ?_
  refine mr_last K hK hW 32 (by decide) rfl (by decide) (n := 150000) rfl rfl ⟨by omega, by omega⟩ dX12_books_57 (fun H locs hW => ?_)
  refine lv_aload_n hx hb dX12_books_58 rfl (lv_at hl 0 rfl) ?_
  refine mr_get K hK hW hin 32 (by decide) lM_entry (v := .ref (ix 132)) rfl dX12_books_59 ?_
  refine xi_iconst hx hb dX12_books_62 ?_
  refine lv_aload_n hx hb dX12_books_63 rfl (lv_at hl 0 rfl) ?_
  refine mr_get K hK hW hin 31 (by decide) lM_entries (v := .int (iI (S.1 31 (0)))) rfl dX12_books_64 ?_
  have w_w_5 := wf_31 hwf 0
  refine xi_imul hx hb dX12_books_67 ?_
  refine xi_iconst hx hb dX12_books_68 ?_
  refine xi_iadd hx hb dX12_books_69 ?_
  refine lv_iload hx hb dX12_books_70 (lv_at hl 5 rfl) ?_
  refine xi_i2l hx hb ⟨by omega, by omega⟩ dX12_books_72 ?_
  refine mr_last K hK hW 32 (by decide) rfl (by decide) (n := 150000) rfl rfl ⟨by omega, by omega⟩ dX12_books_73 (fun H locs hW => ?_)
  refine lv_aload_n hx hb dX12_books_74 rfl (lv_at hl 0 rfl) ?_
  refine lv_dup hx hb dX12_books_75 rfl ?_
  refine mr_get K hK hW hin 31 (by decide) lM_entries (v := .int (iI (S.1 31 (0)))) rfl dX12_books_76 ?_
  have w_w_6 := wf_31 hwf 0
  refine xi_iconst hx hb dX12_books_79 ?_
  refine xi_iadd hx hb dX12_books_80 ?_
  refine mr_put K hK hW hin 31 (by decide) lM_entries rfl rfl (S' := (pI (pL (pL (pL (pL (pL S 32 (5 * (S.1 31 (0))) (Int64.ofInt (b))) 32 ((5 * (S.1 31 (0))) + 1) (Int64.ofInt (o))) 32 ((5 * (S.1 31 (0))) + 2) (Int64.ofInt (c))) 32 ((5 * (S.1 31 (0))) + 3) (v)) 32 ((5 * (S.1 31 (0))) + 4) (Int64.ofInt (k))) 31 (0) ((S.1 31 (0)) + 1))) (X' := (mX (I) (aM) (qM) (tM))) rfl (fun i hi => mC_sc rfl hi (by decide)) dX12_books_81 (fun H locs hW => ?_)
  refine lv_iload_n hx hb dX12_books_84 rfl (lv_at hl 1 rfl) ?_
  refine xi_iconst hx hb dX12_books_85 ?_
  refine xi_icmp_eq (tgt := 104) hx hb ⟨by omega, by omega⟩ ⟨by omega, by omega⟩ dX12_books_86 (by decide) (fun c_7 => ?_) (fun c_7 => ?_)
  · refine lv_aload_n hx hb dX12_books_104 rfl (lv_at hl 0 rfl) ?_
    refine mr_get K hK hW hin 1 (by decide) lM_account (v := .ref (ix 101)) rfl dX12_books_105 ?_
    refine lv_iload_n hx hb dX12_books_108 rfl (lv_at hl 2 rfl) ?_
    refine lv_iload_n hx hb dX12_books_109 rfl (lv_at hl 3 rfl) ?_
    refine g_callS (As := [.int (iI (o)), .int (iI (c))]) (rest := [.ref (ix 101)]) K (c_M_of (o) (c)) (va_cwS 2 hts gM_X12_of rfl rfl rfl (by decide +kernel) ⟨Nat.le_of_ble_eq_true rfl, Nat.le_of_ble_eq_true rfl⟩) hK hW rfl hl.1 rfl (Nat.le_of_ble_eq_true rfl) dX12_books_110 ⟨Nat.le_refl _, Nat.le_refl _⟩ (fun v_ f_ H locs hp hW => ?_)
    obtain ⟨hpv, hpe⟩ := hp
    rw [hpe] at hW
    subst hpv
    refine lv_dup2_11 hx hb dX12_books_113 rfl rfl ?_
    refine mr_lald K hK hW 1 (by decide) rfl (n := 21) rfl rfl ⟨by omega, by omega⟩ (v := S.2 1 (3 * o + c)) rfl dX12_books_114 ?_
    refine lv_lload hx hb dX12_books_115 (lv_at hl 4 rfl) ?_
    refine lv_ladd hx hb dX12_books_117 ?_
    refine mr_last K hK hW 1 (by decide) rfl (by decide) (n := 21) rfl rfl ⟨by omega, by omega⟩ dX12_books_118 (fun H locs hW => ?_)
    exact g_vret hx hb hr hW ⟨rfl, by unfold sBook; rw [sLess_t c_7]; rfl⟩ dX12_books_119 hlk
  · refine lv_aload_n hx hb dX12_books_89 rfl (lv_at hl 0 rfl) ?_
    refine mr_get K hK hW hin 1 (by decide) lM_account (v := .ref (ix 101)) rfl dX12_books_90 ?_
    refine lv_iload_n hx hb dX12_books_93 rfl (lv_at hl 1 rfl) ?_
    refine lv_iload_n hx hb dX12_books_94 rfl (lv_at hl 3 rfl) ?_
    refine g_callS (As := [.int (iI (b)), .int (iI (c))]) (rest := [.ref (ix 101)]) K (c_M_of (b) (c)) (va_cwS 2 hts gM_X12_of rfl rfl rfl (by decide +kernel) ⟨Nat.le_of_ble_eq_true rfl, Nat.le_of_ble_eq_true rfl⟩) hK hW rfl hl.1 rfl (Nat.le_of_ble_eq_true rfl) dX12_books_95 ⟨Nat.le_refl _, Nat.le_refl _⟩ (fun v_ f_ H locs hp hW => ?_)
    obtain ⟨hpv, hpe⟩ := hp
    rw [hpe] at hW
    subst hpv
    refine lv_dup2_11 hx hb dX12_books_98 rfl rfl ?_
    refine mr_lald K hK hW 1 (by decide) rfl (n := 21) rfl rfl ⟨by omega, by omega⟩ (v := S.2 1 (3 * b + c)) rfl dX12_books_99 ?_
    refine lv_lload hx hb dX12_books_100 (lv_at hl 4 rfl) ?_
    refine lv_lsub hx hb dX12_books_102 ?_
    refine mr_last K hK hW 1 (by decide) rfl (by decide) (n := 21) rfl rfl ⟨by omega, by omega⟩ dX12_books_103 (fun H locs hW => ?_)
    refine lv_aload_n hx hb dX12_books_104 rfl (lv_at hl 0 rfl) ?_
    refine mr_get K hK hW hin 1 (by decide) lM_account (v := .ref (ix 101)) rfl dX12_books_105 ?_
    refine lv_iload_n hx hb dX12_books_108 rfl (lv_at hl 2 rfl) ?_
    refine lv_iload_n hx hb dX12_books_109 rfl (lv_at hl 3 rfl) ?_
    refine g_callS (As := [.int (iI (o)), .int (iI (c))]) (rest := [.ref (ix 101)]) K (c_M_of (o) (c)) (va_cwS 2 hts gM_X12_of rfl rfl rfl (by decide +kernel) ⟨Nat.le_of_ble_eq_true rfl, Nat.le_of_ble_eq_true rfl⟩) hK hW rfl hl.1 rfl (Nat.le_of_ble_eq_true rfl) dX12_books_110 ⟨Nat.le_refl _, Nat.le_refl _⟩ (fun v_ f_ H locs hp hW => ?_)
    obtain ⟨hpv, hpe⟩ := hp
    rw [hpe] at hW
    subst hpv
    refine lv_dup2_11 hx hb dX12_books_113 rfl rfl ?_
    refine mr_lald K hK hW 1 (by decide) rfl (n := 21) rfl rfl ⟨by omega, by omega⟩ (v := (pL S 1 (3 * b + c) ((S.2 1 (3 * b + c)) - v)).2 1 (3 * o + c)) rfl dX12_books_114 ?_
    refine lv_lload hx hb dX12_books_115 (lv_at hl 4 rfl) ?_
    refine lv_ladd hx hb dX12_books_117 ?_
    refine mr_last K hK hW 1 (by decide) rfl (by decide) (n := 21) rfl rfl ⟨by omega, by omega⟩ dX12_books_118 (fun H locs hW => ?_)
    exact g_vret hx hb hr hW ⟨rfl, by unfold sBook; rw [sLess_f c_7]; rfl⟩ dX12_books_119 hlk
