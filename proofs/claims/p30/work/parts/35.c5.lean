theorem ofInt_0 {x : Int} (h : -1000000000 ≤ x ∧ x ≤ 1000000000) : Int64.ofInt x = 0 ↔ x = 0 := by
  constructor
  · intro e
    have := congrArg Int64.toInt e
    rw [Int64.toInt_ofInt_of_le (by omega) (by omega)] at this
    exact this
  · rintro rfl; rfl
theorem isM {b : Bool} : (!decide (Int64.ofInt (bI b) = 0)) = b := by cases b <;> rfl
theorem mark_v (b : Bool) : (if b = true then (1 : Int64) else 0) = Int64.ofInt (bI b) := by cases b <;> rfl
theorem mark_12 (I : Int → Bool) (z : Int) (b : Bool) (x : Int) : lup (fun z => Int64.ofInt (bI (I z))) z (if b = true then 1 else 0) x = Int64.ofInt (bI (iup I z b x)) := by
  unfold lup iup
  split
  · exact mark_v b
  · rfl
set_option maxHeartbeats 4000000 in
set_option maxRecDepth 100000 in
theorem c_X4_isOpen {l : Launch} {D : va_G} {cy : Nat → ClassId} {B0 : Nat} {ad bk : Nat → Nat} {S : ST} {I : Int → Bool} {cX qX : Int → Int64} {G : gF} (c : Int) (d : Int) (hwf : wf S) (hc : 0 ≤ c ∧ c ≤ 2) (hd : 0 ≤ d ∧ d ≤ 999) : gM l yX4_isOpen vX4_isOpen 1 21 D cy B0 [.ref (ad 2), .int (iI (c)), .int (iI (d))] (kW cy ad bk S (I, cX, qX) G) (fun r g_ => r = some (.int (iI (bI (sOpen S c d)))) ∧ g_ = kW cy ad bk S (I, cX, qX) G) 0 0 := by
  refine g_start (cc := cX4_isOpen) (maxL := 4) (ret := (some .boolean)) (by decide) rfl (Nat.le_of_ble_eq_true rfl) ?_
  intro p_ e_ s_ m_ be_ me_ co_ ls H locs K hr hlk hnm hK hW hl
  obtain ⟨hx, hb, hml, hown, hts⟩ := id K
  have hl : lv_has ls 4 [(0, .ref (ad 2)), (1, .int (iI (c))), (2, .int (iI (d)))] := hl
  refine lv_iload_n hx hb dX4_isOpen_0 rfl (lv_at hl 2 rfl) ?_
  refine xi_bipush hx hb dX4_isOpen_1 (by decide) ?_
  refine xi_irem hx hb ⟨by omega, by omega⟩ ⟨by omega, by omega⟩ dX4_isOpen_3 ?_
  refine lv_istore_n (lv' := [(3, .int (iI (d % 7))), (0, .ref (ad 2)), (1, .int (iI (c))), (2, .int (iI (d)))]) hx hb dX4_isOpen_4 rfl hl (by decide) rfl (fun ls hl => ?_)
  refine lv_iload_n hx hb dX4_isOpen_5 rfl (lv_at hl 0 rfl) ?_
  refine xi_iconst hx hb dX4_isOpen_6 ?_
  refine xi_icmp_eq (tgt := 37) hx hb ⟨by omega, by omega⟩ ⟨by omega, by omega⟩ dX4_isOpen_7 (by decide) (fun c_1 => ?_) (fun c_1 => ?_)
  · refine xi_iconst hx hb dX4_isOpen_37 ?_
    exact g_zret hx hb hr (Or.inl rfl) hW ⟨congrArg (fun z => some (Value.int (iI z))) (bI_f (by simp only [sOpen, Bool.and_eq_true, Bool.or_eq_true, Bool.and_eq_false_iff, Bool.or_eq_false_iff, decide_eq_true_eq, decide_eq_false_iff_not, Bool.not_eq_true, Bool.not_eq_false]; omega)), rfl⟩ dX4_isOpen_38 hlk
  · refine lv_iload_n hx hb dX4_isOpen_10 rfl (lv_at hl 0 rfl) ?_
    refine xi_bipush hx hb dX4_isOpen_11 (by decide) ?_
    refine xi_icmp_eq (tgt := 37) hx hb ⟨by omega, by omega⟩ ⟨by omega, by omega⟩ dX4_isOpen_13 (by decide) (fun c_2 => ?_) (fun c_2 => ?_)
    · refine xi_iconst hx hb dX4_isOpen_37 ?_
      exact g_zret hx hb hr (Or.inl rfl) hW ⟨congrArg (fun z => some (Value.int (iI z))) (bI_f (by simp only [sOpen, Bool.and_eq_true, Bool.or_eq_true, Bool.and_eq_false_iff, Bool.or_eq_false_iff, decide_eq_true_eq, decide_eq_false_iff_not, Bool.not_eq_true, Bool.not_eq_false]; omega)), rfl⟩ dX4_isOpen_38 hlk
    · refine lv_aload_n hx hb dX4_isOpen_16 rfl (lv_at hl 1 rfl) ?_
      refine g_get (ref := RX4) (T := TX4) (N := 2) (ci := 5) hx hb hts wsC_X4 hown hK hW (100000 + 2) (kW_at rfl) rfl 1 (by decide) (hts _ lC_X4_14) (fun x h => h) (v := .ref (ad 20)) rfl dX4_isOpen_17 ?_
      refine lv_iload_n hx hb dX4_isOpen_20 rfl (lv_at hl 2 rfl) ?_
      refine xi_sipush hx hb dX4_isOpen_21 (by decide) ?_
      refine xi_imul hx hb dX4_isOpen_24 ?_
      refine lv_iload_n hx hb dX4_isOpen_25 rfl (lv_at hl 3 rfl) ?_
      refine xi_iadd hx hb dX4_isOpen_26 ?_
      refine xi_eq (z' := 1000 * c + d) (by omega) ?_
      refine g_callV (i := 100000 + 20) (As := [.int (iI (1000 * c + d))]) (rest := []) K (c_X9_isSet (i := 100000 + 20) (j := 100000 + (40 + 0)) (1000 * c + d) (kW_at rfl) (kW_at (kC_row (r := 0) (by decide))) (by decide) (by decide) (show 0 ≤ (1000 * c + d) ∧ (1000 * c + d) < ((3000 : Nat) : Int) from ⟨by omega, by omega⟩)) (cwV 1 hts gC_X4_24 rfl rfl rfl (by decide +kernel) ⟨Nat.le_of_ble_eq_true rfl, Nat.le_of_ble_eq_true rfl⟩) hK hW (kW_at rfl) rfl rfl hl.1 rfl (Nat.le_of_ble_eq_true rfl) dX4_isOpen_27 ⟨Nat.le_refl _, Nat.le_refl _⟩ (fun v_ f_ H locs hp hW => ?_)
      obtain ⟨hpv, hpe⟩ := hp
      rw [hpe] at hW
      have w_3 := wf_6 hwf (1000 * c + d)
      have hpv : v_ = some (.int (iI (bI (!decide (Int64.ofInt (S.1 6 (1000 * c + d)) = 0))))) := hpv
      rw [show decide (Int64.ofInt (S.1 6 (1000 * c + d)) = 0) = decide ((S.1 6 (1000 * c + d)) = 0) from decide_eq_decide.mpr (ofInt_0 ⟨by omega, by omega⟩)] at hpv
      subst hpv
      refine xi_ifb_ne (tgt := 37) hx hb dX4_isOpen_30 (by decide) (fun c_4 => ?_) (fun c_4 => ?_)
      · have c_4n : ¬ ((S.1 6 (1000 * c + d)) = 0) := by simpa using c_4
        refine xi_iconst hx hb dX4_isOpen_37 ?_
        exact g_zret hx hb hr (Or.inl rfl) hW ⟨congrArg (fun z => some (Value.int (iI z))) (bI_f (by simp only [sOpen, Bool.and_eq_true, Bool.or_eq_true, Bool.and_eq_false_iff, Bool.or_eq_false_iff, decide_eq_true_eq, decide_eq_false_iff_not, Bool.not_eq_true, Bool.not_eq_false]; omega)), rfl⟩ dX4_isOpen_38 hlk
      · have c_4n : ((S.1 6 (1000 * c + d)) = 0) := by simpa using c_4
        refine xi_iconst hx hb dX4_isOpen_33 ?_
        refine lv_goto (tgt := 38) hx hb dX4_isOpen_34 (by decide) ?_
        exact g_zret hx hb hr (Or.inr rfl) hW ⟨congrArg (fun z => some (Value.int (iI z))) (bI_t (by simp only [sOpen, Bool.and_eq_true, Bool.or_eq_true, Bool.and_eq_false_iff, Bool.or_eq_false_iff, decide_eq_true_eq, decide_eq_false_iff_not, Bool.not_eq_true, Bool.not_eq_false]; omega)), rfl⟩ dX4_isOpen_38 hlk
set_option maxHeartbeats 4000000 in
set_option maxRecDepth 100000 in
theorem c_X4_isOpenToday {l : Launch} {D : va_G} {cy : Nat → ClassId} {B0 : Nat} {ad bk : Nat → Nat} {S : ST} {I : Int → Bool} {cX qX : Int → Int64} {G : gF} (c : Int) (hwf : wf S) (hc : 0 ≤ c ∧ c ≤ 2) : gM l yX4_isOpenToday vX4_isOpenToday 2 44 D cy B0 [.ref (ad 2), .int (iI (c))] (kW cy ad bk S (I, cX, qX) G) (fun r g_ => r = some (.int (iI (bI (sOpen S c (S.1 0 0))))) ∧ g_ = kW cy ad bk S (I, cX, qX) G) 0 0 := by
  refine g_start (cc := cX4_isOpenToday) (maxL := 2) (ret := (some .boolean)) (by decide) rfl (Nat.le_of_ble_eq_true rfl) ?_
  intro p_ e_ s_ m_ be_ me_ co_ ls H locs K hr hlk hnm hK hW hl
  obtain ⟨hx, hb, hml, hown, hts⟩ := id K
  have hl : lv_has ls 2 [(0, .ref (ad 2)), (1, .int (iI (c)))] := hl
  refine lv_aload_n hx hb dX4_isOpenToday_0 rfl (lv_at hl 0 rfl) ?_
  refine lv_iload_n hx hb dX4_isOpenToday_1 rfl (lv_at hl 1 rfl) ?_
  refine lv_aload_n hx hb dX4_isOpenToday_2 rfl (lv_at hl 0 rfl) ?_
  refine g_get (ref := RX4) (T := TX4) (N := 2) (ci := 5) hx hb hts wsC_X4 hown hK hW (100000 + 2) (kW_at rfl) rfl 0 (by decide) (hts _ lC_X4_28) (fun x h => h) (v := .int (iI (S.1 0 (0)))) rfl dX4_isOpenToday_3 ?_
  have w_1 := wf_0 hwf (0)
  refine g_callV (i := 100000 + 2) (As := [.int (iI (c)), .int (iI (S.1 0 (0)))]) (rest := []) K (c_X4_isOpen (c) (S.1 0 (0)) hwf ⟨by omega, by omega⟩ ⟨by omega, by omega⟩) (cwV 2 hts gC_X4_32 rfl rfl rfl (by decide +kernel) ⟨Nat.le_of_ble_eq_true rfl, Nat.le_of_ble_eq_true rfl⟩) hK hW (kW_at rfl) rfl rfl hl.1 rfl (Nat.le_of_ble_eq_true rfl) dX4_isOpenToday_6 ⟨Nat.le_refl _, Nat.le_refl _⟩ (fun v_ f_ H locs hp hW => ?_)
  obtain ⟨hpv, hpe⟩ := hp
  rw [hpe] at hW
  have hpv : v_ = some (.int (iI (bI (sOpen S (c) (S.1 0 (0)))))) := hpv
  subst hpv
  exact g_zret hx hb hr (bI_01 _) hW ⟨rfl, rfl⟩ dX4_isOpenToday_9 hlk
set_option maxHeartbeats 4000000 in
set_option maxRecDepth 100000 in
theorem c_X4_changeHoliday {l : Launch} {D : va_G} {cy : Nat → ClassId} {B0 : Nat} {ad bk : Nat → Nat} {S : ST} {I : Int → Bool} {cX qX : Int → Int64} {G : gF} (c : Int) (d : Int) (is : Bool) (hwf : wf S) (hc : 0 ≤ c ∧ c ≤ 2) (hd : 0 ≤ d ∧ d ≤ 999) : gM l yX4_changeHoliday vX4_changeHoliday 2 45 D cy B0 [.ref (ad 2), .int (iI (c)), .int (iI (d)), .int (iI (bI (is)))] (kW cy ad bk S (I, cX, qX) G) (fun r g_ => r = none ∧ g_ = kW cy ad bk (pI S 6 (1000 * c + d) (bI is)) (I, cX, qX) G) 0 0 := by
  refine g_start (cc := cX4_changeHoliday) (maxL := 4) (ret := none) (by decide) rfl (Nat.le_of_ble_eq_true rfl) ?_
  intro p_ e_ s_ m_ be_ me_ co_ ls H locs K hr hlk hnm hK hW hl
  obtain ⟨hx, hb, hml, hown, hts⟩ := id K
  have hl : lv_has ls 4 [(0, .ref (ad 2)), (1, .int (iI (c))), (2, .int (iI (d))), (3, .int (iI (bI (is))))] := hl
  refine lv_aload_n hx hb dX4_changeHoliday_0 rfl (lv_at hl 0 rfl) ?_
  refine g_get (ref := RX4) (T := TX4) (N := 2) (ci := 5) hx hb hts wsC_X4 hown hK hW (100000 + 2) (kW_at rfl) rfl 1 (by decide) (hts _ lC_X4_14) (fun x h => h) (v := .ref (ad 20)) rfl dX4_changeHoliday_1 ?_
  refine lv_iload_n hx hb dX4_changeHoliday_4 rfl (lv_at hl 1 rfl) ?_
  refine xi_sipush hx hb dX4_changeHoliday_5 (by decide) ?_
  refine xi_imul hx hb dX4_changeHoliday_8 ?_
  refine lv_iload_n hx hb dX4_changeHoliday_9 rfl (lv_at hl 2 rfl) ?_
  refine xi_iadd hx hb dX4_changeHoliday_10 ?_
  refine xi_eq (z' := 1000 * c + d) (by omega) ?_
  refine lv_iload_n hx hb dX4_changeHoliday_11 rfl (lv_at hl 3 rfl) ?_
  refine g_callV (i := 100000 + 20) (As := [.int (iI (1000 * c + d)), .int (iI (bI (is)))]) (rest := []) K (c_X9_mark (i := 100000 + 20) (j := 100000 + (40 + 0)) (1000 * c + d) (is) (kW_at rfl) (kW_at (kC_row (r := 0) (by decide))) (by decide) (by decide) (show 0 ≤ (1000 * c + d) ∧ (1000 * c + d) < ((3000 : Nat) : Int) from ⟨by omega, by omega⟩)) (cwV 2 hts gC_X4_20 rfl rfl rfl (by decide +kernel) ⟨Nat.le_of_ble_eq_true rfl, Nat.le_of_ble_eq_true rfl⟩) hK hW (kW_at rfl) rfl rfl hl.1 rfl (Nat.le_of_ble_eq_true rfl) dX4_changeHoliday_12 ⟨Nat.le_refl _, Nat.le_refl _⟩ (fun v_ f_ H locs hp hW => ?_)
  obtain ⟨hpv, hpe⟩ := hp
  rw [hpe.trans (show _ = kW cy ad bk (pI S 6 (1000 * c + d) (bI (is))) (I, cX, qX) G from by rw [mark_v]; exact kW_rI (cy := cy) (ad := ad) (bk := bk) (S := S) (X := (I, cX, qX)) (G := G) 0 (by decide) (z := 1000 * c + d) (v := bI (is)) (by decide))] at hW
  subst hpv
  exact g_vret hx hb hr hW ⟨rfl, rfl⟩ dX4_changeHoliday_15 hlk
set_option maxHeartbeats 4000000 in
set_option maxRecDepth 100000 in
theorem c_X7_hasEnded {l : Launch} {D : va_G} {cy : Nat → ClassId} {B0 : Nat} {ad bk : Nat → Nat} {S : ST} {I : Int → Bool} {cX qX : Int → Int64} {G : gF} (k : Int) (hwf : wf S) (h0 : 0 ≤ k) (h1 : k < S.1 8 0) : gM l yX7_hasEnded vX7_hasEnded 0 0 D cy B0 [.ref (ad (1000 + 2 * (k).toNat))] (kW cy ad bk S (I, cX, qX) G) (fun r g_ => r = some (.int (iI (bI (sEnds S k)))) ∧ g_ = kW cy ad bk S (I, cX, qX) G) 0 0 := by
  refine g_start (cc := cX7_hasEnded) (maxL := 1) (ret := (some .boolean)) (by decide) rfl (Nat.le_of_ble_eq_true rfl) ?_
  intro p_ e_ s_ m_ be_ me_ co_ ls H locs K hr hlk hnm hK hW hl
  obtain ⟨hx, hb, hml, hown, hts⟩ := id K
  have hl : lv_has ls 1 [(0, .ref (ad (1000 + 2 * (k).toNat)))] := hl
  refine lv_aload_n hx hb dX7_hasEnded_0 rfl (lv_at hl 0 rfl) ?_
  refine g_get (ref := RX7) (T := TX7) (N := 9) (ci := 8) hx hb hts wsC_X7 hown hK hW (100000 + (1000 + 2 * (k).toNat)) (kW_at (kC_pay hwf (by omega) (show (k) < S.1 8 0 from by omega))) rfl 2 (by decide) (hts _ lC_X7_9) (fun x h => h) (v := .int (iI (S.1 18 (k)))) rfl dX7_hasEnded_1 ?_
  have w_1 := wf_18 hwf (k)
  refine xi_iconst hx hb dX7_hasEnded_4 ?_
  refine xi_icmp_eq (tgt := 16) hx hb ⟨by omega, by omega⟩ ⟨by omega, by omega⟩ dX7_hasEnded_5 (by decide) (fun c_2 => ?_) (fun c_2 => ?_)
  · refine xi_iconst hx hb dX7_hasEnded_16 ?_
    refine lv_goto (tgt := 21) hx hb dX7_hasEnded_17 (by decide) ?_
    exact g_zret hx hb hr (Or.inr rfl) hW ⟨congrArg (fun z => some (Value.int (iI z))) (bI_t (by simp only [sEnds, Bool.and_eq_true, Bool.or_eq_true, Bool.and_eq_false_iff, Bool.or_eq_false_iff, decide_eq_true_eq, decide_eq_false_iff_not, Bool.not_eq_true, Bool.not_eq_false]; omega)), rfl⟩ dX7_hasEnded_21 hlk
  · refine lv_aload_n hx hb dX7_hasEnded_8 rfl (lv_at hl 0 rfl) ?_
    refine g_get (ref := RX7) (T := TX7) (N := 9) (ci := 8) hx hb hts wsC_X7 hown hK hW (100000 + (1000 + 2 * (k).toNat)) (kW_at (kC_pay hwf (by omega) (show (k) < S.1 8 0 from by omega))) rfl 2 (by decide) (hts _ lC_X7_9) (fun x h => h) (v := .int (iI (S.1 18 (k)))) rfl dX7_hasEnded_9 ?_
    have w_3 := wf_18 hwf (k)
    refine xi_iconst hx hb dX7_hasEnded_12 ?_
    refine xi_icmp_ne (tgt := 20) hx hb ⟨by omega, by omega⟩ ⟨by omega, by omega⟩ dX7_hasEnded_13 (by decide) (fun c_4 => ?_) (fun c_4 => ?_)
    · refine xi_iconst hx hb dX7_hasEnded_20 ?_
      exact g_zret hx hb hr (Or.inl rfl) hW ⟨congrArg (fun z => some (Value.int (iI z))) (bI_f (by simp only [sEnds, Bool.and_eq_true, Bool.or_eq_true, Bool.and_eq_false_iff, Bool.or_eq_false_iff, decide_eq_true_eq, decide_eq_false_iff_not, Bool.not_eq_true, Bool.not_eq_false]; omega)), rfl⟩ dX7_hasEnded_21 hlk
    · refine xi_iconst hx hb dX7_hasEnded_16 ?_
      refine lv_goto (tgt := 21) hx hb dX7_hasEnded_17 (by decide) ?_
      exact g_zret hx hb hr (Or.inr rfl) hW ⟨congrArg (fun z => some (Value.int (iI z))) (bI_t (by simp only [sEnds, Bool.and_eq_true, Bool.or_eq_true, Bool.and_eq_false_iff, Bool.or_eq_false_iff, decide_eq_true_eq, decide_eq_false_iff_not, Bool.not_eq_true, Bool.not_eq_false]; omega)), rfl⟩ dX7_hasEnded_21 hlk
set_option maxHeartbeats 4000000 in
set_option maxRecDepth 100000 in
theorem c_X7_isIn {l : Launch} {D : va_G} {cy : Nat → ClassId} {B0 : Nat} {ad bk : Nat → Nat} {S : ST} {I : Int → Bool} {cX qX : Int → Int64} {G : gF} (k : Int) (x : Int) (c : Int) (hwf : wf S) (h0 : 0 ≤ k) (h1 : k < S.1 8 0) (hx0 : rI x) (hc : rI c) : gM l yX7_isIn vX7_isIn 0 0 D cy B0 [.ref (ad (1000 + 2 * (k).toNat)), .int (iI (x)), .int (iI (c))] (kW cy ad bk S (I, cX, qX) G) (fun r g_ => r = some (.int (iI (bI (decide (S.1 18 k = x) && decide (S.1 11 k = c))))) ∧ g_ = kW cy ad bk S (I, cX, qX) G) 0 0 := by
  refine g_start (cc := cX7_isIn) (maxL := 3) (ret := (some .boolean)) (by decide) rfl (Nat.le_of_ble_eq_true rfl) ?_
  intro p_ e_ s_ m_ be_ me_ co_ ls H locs K hr hlk hnm hK hW hl
  obtain ⟨hx, hb, hml, hown, hts⟩ := id K
  have hl : lv_has ls 3 [(0, .ref (ad (1000 + 2 * (k).toNat))), (1, .int (iI (x))), (2, .int (iI (c)))] := hl
  refine lv_aload_n hx hb dX7_isIn_0 rfl (lv_at hl 0 rfl) ?_
  refine g_get (ref := RX7) (T := TX7) (N := 9) (ci := 8) hx hb hts wsC_X7 hown hK hW (100000 + (1000 + 2 * (k).toNat)) (kW_at (kC_pay hwf (by omega) (show (k) < S.1 8 0 from by omega))) rfl 2 (by decide) (hts _ lC_X7_9) (fun x h => h) (v := .int (iI (S.1 18 (k)))) rfl dX7_isIn_1 ?_
  have w_1 := wf_18 hwf (k)
  refine lv_iload_n hx hb dX7_isIn_4 rfl (lv_at hl 1 rfl) ?_
  refine xi_icmp_ne (tgt := 23) hx hb ⟨by omega, by omega⟩ ⟨by omega, by omega⟩ dX7_isIn_5 (by decide) (fun c_2 => ?_) (fun c_2 => ?_)
  · refine xi_iconst hx hb dX7_isIn_23 ?_
    exact g_zret hx hb hr (Or.inl rfl) hW ⟨congrArg (fun z => some (Value.int (iI z))) (bI_f (by simp only [Bool.and_eq_true, Bool.or_eq_true, Bool.and_eq_false_iff, Bool.or_eq_false_iff, decide_eq_true_eq, decide_eq_false_iff_not, Bool.not_eq_true, Bool.not_eq_false]; omega)), rfl⟩ dX7_isIn_24 hlk
  · refine lv_aload_n hx hb dX7_isIn_8 rfl (lv_at hl 0 rfl) ?_
    refine g_get (ref := RX7) (T := TX7) (N := 9) (ci := 8) hx hb hts wsC_X7 hown hK hW (100000 + (1000 + 2 * (k).toNat)) (kW_at (kC_pay hwf (by omega) (show (k) < S.1 8 0 from by omega))) rfl 1 (by decide) (hts _ lC_X7_27) (fun x h => h) (v := .ref (ad (1001 + 2 * (k).toNat))) rfl dX7_isIn_9 ?_
    refine g_get (ref := RX10) (T := TX10) (N := 9) (ci := 11) hx hb hts wsC_X10 hown hK hW (100000 + (1001 + 2 * (k).toNat)) (kW_at (kC_trm hwf (by omega) (show (k) < S.1 8 0 from by omega))) rfl 2 (by decide) (hts _ lC_X7_31) (fun x h => h) (v := .int (iI (S.1 11 (k)))) rfl dX7_isIn_12 ?_
    have w_3 := wf_11 hwf (k)
    refine lv_iload_n hx hb dX7_isIn_15 rfl (lv_at hl 2 rfl) ?_
    refine xi_icmp_ne (tgt := 23) hx hb ⟨by omega, by omega⟩ ⟨by omega, by omega⟩ dX7_isIn_16 (by decide) (fun c_4 => ?_) (fun c_4 => ?_)
    · refine xi_iconst hx hb dX7_isIn_23 ?_
      exact g_zret hx hb hr (Or.inl rfl) hW ⟨congrArg (fun z => some (Value.int (iI z))) (bI_f (by simp only [Bool.and_eq_true, Bool.or_eq_true, Bool.and_eq_false_iff, Bool.or_eq_false_iff, decide_eq_true_eq, decide_eq_false_iff_not, Bool.not_eq_true, Bool.not_eq_false]; omega)), rfl⟩ dX7_isIn_24 hlk
    · refine xi_iconst hx hb dX7_isIn_19 ?_
      refine lv_goto (tgt := 24) hx hb dX7_isIn_20 (by decide) ?_
      exact g_zret hx hb hr (Or.inr rfl) hW ⟨congrArg (fun z => some (Value.int (iI z))) (bI_t (by simp only [Bool.and_eq_true, Bool.or_eq_true, Bool.and_eq_false_iff, Bool.or_eq_false_iff, decide_eq_true_eq, decide_eq_false_iff_not, Bool.not_eq_true, Bool.not_eq_false]; omega)), rfl⟩ dX7_isIn_24 hlk
def kBeh (S : ST) (k u : Int) : Bool := decide (S.1 14 k < S.1 14 u) || (decide (S.1 14 k = S.1 14 u) && decide (u < k))
set_option maxHeartbeats 4000000 in
set_option maxRecDepth 100000 in
theorem c_X7_isBehind {l : Launch} {D : va_G} {cy : Nat → ClassId} {B0 : Nat} {ad bk : Nat → Nat} {S : ST} {I : Int → Bool} {cX qX : Int → Int64} {G : gF} (k : Int) (u : Int) (hwf : wf S) (h0 : 0 ≤ k) (h1 : k < S.1 8 0) (hu0 : 0 ≤ u) (hu1 : u < S.1 8 0) : gM l yX7_isBehind vX7_isBehind 0 0 D cy B0 [.ref (ad (1000 + 2 * (k).toNat)), .ref (ad (1000 + 2 * (u).toNat))] (kW cy ad bk S (I, cX, qX) G) (fun r g_ => r = some (.int (iI (bI (kBeh S k u)))) ∧ g_ = kW cy ad bk S (I, cX, qX) G) 0 0 := by
  refine g_start (cc := cX7_isBehind) (maxL := 2) (ret := (some .boolean)) (by decide) rfl (Nat.le_of_ble_eq_true rfl) ?_
  intro p_ e_ s_ m_ be_ me_ co_ ls H locs K hr hlk hnm hK hW hl
  obtain ⟨hx, hb, hml, hown, hts⟩ := id K
  have hl : lv_has ls 2 [(0, .ref (ad (1000 + 2 * (k).toNat))), (1, .ref (ad (1000 + 2 * (u).toNat)))] := hl
  have h8 := wf_8 hwf 0
  refine lv_aload_n hx hb dX7_isBehind_0 rfl (lv_at hl 0 rfl) ?_
  refine g_get (ref := RX7) (T := TX7) (N := 9) (ci := 8) hx hb hts wsC_X7 hown hK hW (100000 + (1000 + 2 * (k).toNat)) (kW_at (kC_pay hwf (by omega) (show (k) < S.1 8 0 from by omega))) rfl 1 (by decide) (hts _ lC_X7_27) (fun x h => h) (v := .ref (ad (1001 + 2 * (k).toNat))) rfl dX7_isBehind_1 ?_
  refine g_get (ref := RX10) (T := TX10) (N := 9) (ci := 11) hx hb hts wsC_X10 hown hK hW (100000 + (1001 + 2 * (k).toNat)) (kW_at (kC_trm hwf (by omega) (show (k) < S.1 8 0 from by omega))) rfl 5 (by decide) (hts _ lC_X7_36) (fun x h => h) (v := .int (iI (S.1 14 (k)))) rfl dX7_isBehind_4 ?_
  have w_1 := wf_14 hwf (k)
  refine lv_aload_n hx hb dX7_isBehind_7 rfl (lv_at hl 1 rfl) ?_
  refine g_get (ref := RX7) (T := TX7) (N := 9) (ci := 8) hx hb hts wsC_X7 hown hK hW (100000 + (1000 + 2 * (u).toNat)) (kW_at (kC_pay hwf (by omega) (show (u) < S.1 8 0 from by omega))) rfl 1 (by decide) (hts _ lC_X7_27) (fun x h => h) (v := .ref (ad (1001 + 2 * (u).toNat))) rfl dX7_isBehind_8 ?_
  refine g_get (ref := RX10) (T := TX10) (N := 9) (ci := 11) hx hb hts wsC_X10 hown hK hW (100000 + (1001 + 2 * (u).toNat)) (kW_at (kC_trm hwf (by omega) (show (u) < S.1 8 0 from by omega))) rfl 5 (by decide) (hts _ lC_X7_36) (fun x h => h) (v := .int (iI (S.1 14 (u)))) rfl dX7_isBehind_11 ?_
  have w_2 := wf_14 hwf (u)
  refine xi_icmp_lt (tgt := 45) hx hb ⟨by omega, by omega⟩ ⟨by omega, by omega⟩ dX7_isBehind_14 (by decide) (fun c_3 => ?_) (fun c_3 => ?_)
  · refine xi_iconst hx hb dX7_isBehind_45 ?_
    refine lv_goto (tgt := 50) hx hb dX7_isBehind_46 (by decide) ?_
    exact g_zret hx hb hr (Or.inr rfl) hW ⟨congrArg (fun z => some (Value.int (iI z))) (bI_t (by simp only [kBeh, Bool.and_eq_true, Bool.or_eq_true, Bool.and_eq_false_iff, Bool.or_eq_false_iff, decide_eq_true_eq, decide_eq_false_iff_not, Bool.not_eq_true, Bool.not_eq_false]; omega)), rfl⟩ dX7_isBehind_50 hlk
  · refine lv_aload_n hx hb dX7_isBehind_17 rfl (lv_at hl 0 rfl) ?_
    refine g_get (ref := RX7) (T := TX7) (N := 9) (ci := 8) hx hb hts wsC_X7 hown hK hW (100000 + (1000 + 2 * (k).toNat)) (kW_at (kC_pay hwf (by omega) (show (k) < S.1 8 0 from by omega))) rfl 1 (by decide) (hts _ lC_X7_27) (fun x h => h) (v := .ref (ad (1001 + 2 * (k).toNat))) rfl dX7_isBehind_18 ?_
    refine g_get (ref := RX10) (T := TX10) (N := 9) (ci := 11) hx hb hts wsC_X10 hown hK hW (100000 + (1001 + 2 * (k).toNat)) (kW_at (kC_trm hwf (by omega) (show (k) < S.1 8 0 from by omega))) rfl 5 (by decide) (hts _ lC_X7_36) (fun x h => h) (v := .int (iI (S.1 14 (k)))) rfl dX7_isBehind_21 ?_
    have w_4 := wf_14 hwf (k)
    refine lv_aload_n hx hb dX7_isBehind_24 rfl (lv_at hl 1 rfl) ?_
    refine g_get (ref := RX7) (T := TX7) (N := 9) (ci := 8) hx hb hts wsC_X7 hown hK hW (100000 + (1000 + 2 * (u).toNat)) (kW_at (kC_pay hwf (by omega) (show (u) < S.1 8 0 from by omega))) rfl 1 (by decide) (hts _ lC_X7_27) (fun x h => h) (v := .ref (ad (1001 + 2 * (u).toNat))) rfl dX7_isBehind_25 ?_
    refine g_get (ref := RX10) (T := TX10) (N := 9) (ci := 11) hx hb hts wsC_X10 hown hK hW (100000 + (1001 + 2 * (u).toNat)) (kW_at (kC_trm hwf (by omega) (show (u) < S.1 8 0 from by omega))) rfl 5 (by decide) (hts _ lC_X7_36) (fun x h => h) (v := .int (iI (S.1 14 (u)))) rfl dX7_isBehind_28 ?_
    have w_5 := wf_14 hwf (u)
    refine xi_icmp_ne (tgt := 49) hx hb ⟨by omega, by omega⟩ ⟨by omega, by omega⟩ dX7_isBehind_31 (by decide) (fun c_6 => ?_) (fun c_6 => ?_)
    · refine xi_iconst hx hb dX7_isBehind_49 ?_
      exact g_zret hx hb hr (Or.inl rfl) hW ⟨congrArg (fun z => some (Value.int (iI z))) (bI_f (by simp only [kBeh, Bool.and_eq_true, Bool.or_eq_true, Bool.and_eq_false_iff, Bool.or_eq_false_iff, decide_eq_true_eq, decide_eq_false_iff_not, Bool.not_eq_true, Bool.not_eq_false]; omega)), rfl⟩ dX7_isBehind_50 hlk
    · refine lv_aload_n hx hb dX7_isBehind_34 rfl (lv_at hl 0 rfl) ?_
      refine g_get (ref := RX7) (T := TX7) (N := 9) (ci := 8) hx hb hts wsC_X7 hown hK hW (100000 + (1000 + 2 * (k).toNat)) (kW_at (kC_pay hwf (by omega) (show (k) < S.1 8 0 from by omega))) rfl 0 (by decide) (hts _ lC_X7_24) (fun x h => h) (v := .int (iI (k))) rfl dX7_isBehind_35 ?_
      refine lv_aload_n hx hb dX7_isBehind_38 rfl (lv_at hl 1 rfl) ?_
      refine g_get (ref := RX7) (T := TX7) (N := 9) (ci := 8) hx hb hts wsC_X7 hown hK hW (100000 + (1000 + 2 * (u).toNat)) (kW_at (kC_pay hwf (by omega) (show (u) < S.1 8 0 from by omega))) rfl 0 (by decide) (hts _ lC_X7_24) (fun x h => h) (v := .int (iI (u))) rfl dX7_isBehind_39 ?_
      refine xi_icmp_le (tgt := 49) hx hb ⟨by omega, by omega⟩ ⟨by omega, by omega⟩ dX7_isBehind_42 (by decide) (fun c_7 => ?_) (fun c_7 => ?_)
      · refine xi_iconst hx hb dX7_isBehind_49 ?_
        exact g_zret hx hb hr (Or.inl rfl) hW ⟨congrArg (fun z => some (Value.int (iI z))) (bI_f (by simp only [kBeh, Bool.and_eq_true, Bool.or_eq_true, Bool.and_eq_false_iff, Bool.or_eq_false_iff, decide_eq_true_eq, decide_eq_false_iff_not, Bool.not_eq_true, Bool.not_eq_false]; omega)), rfl⟩ dX7_isBehind_50 hlk
      · refine xi_iconst hx hb dX7_isBehind_45 ?_
        refine lv_goto (tgt := 50) hx hb dX7_isBehind_46 (by decide) ?_
        exact g_zret hx hb hr (Or.inr rfl) hW ⟨congrArg (fun z => some (Value.int (iI z))) (bI_t (by simp only [kBeh, Bool.and_eq_true, Bool.or_eq_true, Bool.and_eq_false_iff, Bool.or_eq_false_iff, decide_eq_true_eq, decide_eq_false_iff_not, Bool.not_eq_true, Bool.not_eq_false]; omega)), rfl⟩ dX7_isBehind_50 hlk
