set_option maxHeartbeats 4000000 in
set_option maxRecDepth 100000 in
theorem c_X11_needPlace {l : Launch} {D : va_G} {cy : Nat → ClassId} {B0 : Nat} {f : gF} (z : Int) (n : Int) (hz : rI z) (hn : rI n) (hst : l.stackTraces = false) : gX l yX11_needPlace vX11_needPlace 6 82 D cy B0 [.int (iI (z)), .int (iI (n))] (f) (fun r g_ => (0 ≤ z ∧ z < n) ∧ r = none ∧ g_ = f) (fun E_ => E_ = xIO ∧ ¬ (0 ≤ z ∧ z < n)) 1 6 := by
  refine g_startX (cc := cX11_needPlace) (maxL := 2) (ret := none) (by decide) rfl (Nat.le_of_ble_eq_true rfl) ?_
  intro p_ e_ s_ m_ be_ me_ co_ ls H locs K hr hlk hnm ht hK hW hl
  obtain ⟨hx, hb, hml, hown, hts⟩ := id K
  have hl : lv_has ls 2 [(0, .int (iI (z))), (1, .int (iI (n)))] := hl
  refine lv_iload_n hx hb dX11_needPlace_0 rfl (lv_at hl 0 rfl) ?_
  refine xi_if_lt (tgt := 9) hx hb ⟨by omega, by omega⟩ dX11_needPlace_1 (by decide) (fun c_1 => ?_) (fun c_1 => ?_)
  · exact g_throwX (is := 250) (text := "there is none of this number") hx hb hst hown hK (by decide +kernel) (hts _ hC_X11_213) (hts _ (wsC_sub _ wsCw_489)) (fun w h => hts w (wsC_vio w h)) xng_io (List.mem_of_getElem? (i := 11) rfl) xvo_io (List.mem_of_getElem? (i := 2) rfl) hW (by rw [hml]; exact hl.1) ht hlk ⟨rfl, by omega⟩ (fun _ _ h => h) dX11_needPlace_9 dX11_needPlace_12 dX11_needPlace_13 dX11_needPlace_15 dX11_needPlace_18 (Nat.le_of_ble_eq_true rfl) (Nat.le_of_ble_eq_true rfl) (by first | omega | (dsimp only; omega)) (by first | omega | (dsimp only; omega)) (by first | omega | (dsimp only; omega)) (by first | omega | (dsimp only; omega))
  · refine lv_iload_n hx hb dX11_needPlace_4 rfl (lv_at hl 0 rfl) ?_
    refine lv_iload_n hx hb dX11_needPlace_5 rfl (lv_at hl 1 rfl) ?_
    refine xi_icmp_lt (tgt := 19) hx hb ⟨by omega, by omega⟩ ⟨by omega, by omega⟩ dX11_needPlace_6 (by decide) (fun c_2 => ?_) (fun c_2 => ?_)
    · exact W.widen (by first | omega | (dsimp only; omega)) (by first | omega | (dsimp only; omega)) (vx_ret (g_vret hx hb hr hW ⟨⟨by omega, by omega⟩, rfl, rfl⟩ dX11_needPlace_19 hlk))
    · exact g_throwX (is := 250) (text := "there is none of this number") hx hb hst hown hK (by decide +kernel) (hts _ hC_X11_213) (hts _ (wsC_sub _ wsCw_489)) (fun w h => hts w (wsC_vio w h)) xng_io (List.mem_of_getElem? (i := 11) rfl) xvo_io (List.mem_of_getElem? (i := 2) rfl) hW (by rw [hml]; exact hl.1) ht hlk ⟨rfl, by omega⟩ (fun _ _ h => h) dX11_needPlace_9 dX11_needPlace_12 dX11_needPlace_13 dX11_needPlace_15 dX11_needPlace_18 (Nat.le_of_ble_eq_true rfl) (Nat.le_of_ble_eq_true rfl) (by first | omega | (dsimp only; omega)) (by first | omega | (dsimp only; omega)) (by first | omega | (dsimp only; omega)) (by first | omega | (dsimp only; omega))
set_option maxHeartbeats 4000000 in
set_option maxRecDepth 100000 in
theorem c_X11_needRange {l : Launch} {D : va_G} {cy : Nat → ClassId} {B0 : Nat} {f : gF} (z : Int) (a : Int) (n : Int) (hz : rI z) (ha : rI a) (hn : rI n) (hst : l.stackTraces = false) : gX l yX11_needRange vX11_needRange 6 82 D cy B0 [.int (iI (z)), .int (iI (a)), .int (iI (n))] (f) (fun r g_ => (a ≤ z ∧ z ≤ n) ∧ r = none ∧ g_ = f) (fun E_ => E_ = xIA ∧ ¬ (a ≤ z ∧ z ≤ n)) 1 6 := by
  refine g_startX (cc := cX11_needRange) (maxL := 3) (ret := none) (by decide) rfl (Nat.le_of_ble_eq_true rfl) ?_
  intro p_ e_ s_ m_ be_ me_ co_ ls H locs K hr hlk hnm ht hK hW hl
  obtain ⟨hx, hb, hml, hown, hts⟩ := id K
  have hl : lv_has ls 3 [(0, .int (iI (z))), (1, .int (iI (a))), (2, .int (iI (n)))] := hl
  refine lv_iload_n hx hb dX11_needRange_0 rfl (lv_at hl 0 rfl) ?_
  refine lv_iload_n hx hb dX11_needRange_1 rfl (lv_at hl 1 rfl) ?_
  refine xi_icmp_lt (tgt := 10) hx hb ⟨by omega, by omega⟩ ⟨by omega, by omega⟩ dX11_needRange_2 (by decide) (fun c_1 => ?_) (fun c_1 => ?_)
  · exact g_throwX (is := 254) (text := "out of range") hx hb hst hown hK (by decide +kernel) (hts _ hC_X11_252) (hts _ (wsC_sub _ wsCw_491)) (fun w h => hts w (wsC_via w h)) xng_ia (List.mem_of_getElem? (i := 12) rfl) xvo_ia (List.mem_of_getElem? (i := 3) rfl) hW (by rw [hml]; exact hl.1) ht hlk ⟨rfl, by omega⟩ (fun _ _ h => h) dX11_needRange_10 dX11_needRange_13 dX11_needRange_14 dX11_needRange_16 dX11_needRange_19 (Nat.le_of_ble_eq_true rfl) (Nat.le_of_ble_eq_true rfl) (by first | omega | (dsimp only; omega)) (by first | omega | (dsimp only; omega)) (by first | omega | (dsimp only; omega)) (by first | omega | (dsimp only; omega))
  · refine lv_iload_n hx hb dX11_needRange_5 rfl (lv_at hl 0 rfl) ?_
    refine lv_iload_n hx hb dX11_needRange_6 rfl (lv_at hl 2 rfl) ?_
    refine xi_icmp_le (tgt := 20) hx hb ⟨by omega, by omega⟩ ⟨by omega, by omega⟩ dX11_needRange_7 (by decide) (fun c_2 => ?_) (fun c_2 => ?_)
    · exact W.widen (by first | omega | (dsimp only; omega)) (by first | omega | (dsimp only; omega)) (vx_ret (g_vret hx hb hr hW ⟨⟨by omega, by omega⟩, rfl, rfl⟩ dX11_needRange_20 hlk))
    · exact g_throwX (is := 254) (text := "out of range") hx hb hst hown hK (by decide +kernel) (hts _ hC_X11_252) (hts _ (wsC_sub _ wsCw_491)) (fun w h => hts w (wsC_via w h)) xng_ia (List.mem_of_getElem? (i := 12) rfl) xvo_ia (List.mem_of_getElem? (i := 3) rfl) hW (by rw [hml]; exact hl.1) ht hlk ⟨rfl, by omega⟩ (fun _ _ h => h) dX11_needRange_10 dX11_needRange_13 dX11_needRange_14 dX11_needRange_16 dX11_needRange_19 (Nat.le_of_ble_eq_true rfl) (Nat.le_of_ble_eq_true rfl) (by first | omega | (dsimp only; omega)) (by first | omega | (dsimp only; omega)) (by first | omega | (dsimp only; omega)) (by first | omega | (dsimp only; omega))
set_option maxHeartbeats 4000000 in
set_option maxRecDepth 100000 in
theorem c_X11_needTwoBanks {l : Launch} {D : va_G} {cy : Nat → ClassId} {B0 : Nat} {f : gF} (z : Int) (n : Int) (hz : rI z) (hn : rI n) (hst : l.stackTraces = false) : gX l yX11_needTwoBanks vX11_needTwoBanks 6 82 D cy B0 [.int (iI (z)), .int (iI (n))] (f) (fun r g_ => ¬ z = n ∧ r = none ∧ g_ = f) (fun E_ => E_ = xIA ∧ z = n) 1 6 := by
  refine g_startX (cc := cX11_needTwoBanks) (maxL := 2) (ret := none) (by decide) rfl (Nat.le_of_ble_eq_true rfl) ?_
  intro p_ e_ s_ m_ be_ me_ co_ ls H locs K hr hlk hnm ht hK hW hl
  obtain ⟨hx, hb, hml, hown, hts⟩ := id K
  have hl : lv_has ls 2 [(0, .int (iI (z))), (1, .int (iI (n)))] := hl
  refine lv_iload_n hx hb dX11_needTwoBanks_0 rfl (lv_at hl 0 rfl) ?_
  refine lv_iload_n hx hb dX11_needTwoBanks_1 rfl (lv_at hl 1 rfl) ?_
  refine xi_icmp_ne (tgt := 16) hx hb ⟨by omega, by omega⟩ ⟨by omega, by omega⟩ dX11_needTwoBanks_2 (by decide) (fun c_1 => ?_) (fun c_1 => ?_)
  · exact W.widen (by first | omega | (dsimp only; omega)) (by first | omega | (dsimp only; omega)) (vx_ret (g_vret hx hb hr hW ⟨by omega, rfl, rfl⟩ dX11_needTwoBanks_16 hlk))
  · exact g_throwXW (is := 257) (text := "the two banks are the same") hx hb hst hown hK (by decide +kernel) (hts _ hC_X11_252) (hts _ (wsC_sub _ wsCw_491)) (fun w h => hts w (wsC_via w h)) xng_ia (List.mem_of_getElem? (i := 12) rfl) xvo_ia (List.mem_of_getElem? (i := 4) rfl) hW (by rw [hml]; exact hl.1) ht hlk ⟨rfl, by omega⟩ (fun _ _ h => h) dX11_needTwoBanks_5 dX11_needTwoBanks_8 dX11_needTwoBanks_9 dX11_needTwoBanks_12 dX11_needTwoBanks_15 (Nat.le_of_ble_eq_true rfl) (Nat.le_of_ble_eq_true rfl) (by first | omega | (dsimp only; omega)) (by first | omega | (dsimp only; omega)) (by first | omega | (dsimp only; omega)) (by first | omega | (dsimp only; omega))
set_option maxHeartbeats 4000000 in
set_option maxRecDepth 100000 in
theorem c_X11_needState {l : Launch} {D : va_G} {cy : Nat → ClassId} {B0 : Nat} {f : gF} (x : Bool)  (hst : l.stackTraces = false) : gX l yX11_needState vX11_needState 6 82 D cy B0 [.int (iI (bI (x)))] (f) (fun r g_ => x = true ∧ r = none ∧ g_ = f) (fun E_ => E_ = xIS ∧ x = false) 1 6 := by
  refine g_startX (cc := cX11_needState) (maxL := 1) (ret := none) (by decide) rfl (Nat.le_of_ble_eq_true rfl) ?_
  intro p_ e_ s_ m_ be_ me_ co_ ls H locs K hr hlk hnm ht hK hW hl
  obtain ⟨hx, hb, hml, hown, hts⟩ := id K
  have hl : lv_has ls 1 [(0, .int (iI (bI (x))))] := hl
  refine lv_iload_n hx hb dX11_needState_0 rfl (lv_at hl 0 rfl) ?_
  refine xi_ifb_ne (tgt := 15) hx hb dX11_needState_1 (by decide) (fun c_1 => ?_) (fun c_1 => ?_)
  · exact W.widen (by first | omega | (dsimp only; omega)) (by first | omega | (dsimp only; omega)) (vx_ret (g_vret hx hb hr hW ⟨c_1, rfl, rfl⟩ dX11_needState_15 hlk))
  · exact g_throwXW (is := 261) (text := "not as things stand") hx hb hst hown hK (by decide +kernel) (hts _ hC_X11_259) (hts _ (wsC_sub _ wsCw_533)) (fun w h => hts w (wsC_vis w h)) xng_is (List.mem_of_getElem? (i := 13) rfl) xvo_is (List.mem_of_getElem? (i := 5) rfl) hW (by rw [hml]; exact hl.1) ht hlk ⟨rfl, c_1⟩ (fun _ _ h => h) dX11_needState_4 dX11_needState_7 dX11_needState_8 dX11_needState_11 dX11_needState_14 (Nat.le_of_ble_eq_true rfl) (Nat.le_of_ble_eq_true rfl) (by first | omega | (dsimp only; omega)) (by first | omega | (dsimp only; omega)) (by first | omega | (dsimp only; omega)) (by first | omega | (dsimp only; omega))
set_option maxHeartbeats 4000000 in
set_option maxRecDepth 100000 in
theorem c_X11_needPayment {l : Launch} {D : va_G} {cy : Nat → ClassId} {B0 : Nat} {ad bk : Nat → Nat} {S : ST} {I : Int → Bool} {cX qX : Int → Int64} {G : gF} (k : Int) (hwf : wf S) (hk : rI k) (hst : l.stackTraces = false) : gX l yX11_needPayment vX11_needPayment 6 109 D cy B0 [.ref (ad 0), .int (iI (k))] (kW cy ad bk S (I, cX, qX) G) (fun r g_ => (0 ≤ k ∧ k < S.1 8 0) ∧ r = some (.ref (ad (1000 + 2 * (k).toNat))) ∧ g_ = kW cy ad bk S (I, cX, qX) G) (fun E_ => E_ = xIO ∧ ¬ (0 ≤ k ∧ k < S.1 8 0)) 1 6 := by
  refine g_startX (cc := cX11_needPayment) (maxL := 3) (ret := (some (.object "MillstreamPayments$Payment"))) (by decide) rfl (Nat.le_of_ble_eq_true rfl) ?_
  intro p_ e_ s_ m_ be_ me_ co_ ls H locs K hr hlk hnm ht hK hW hl
  obtain ⟨hx, hb, hml, hown, hts⟩ := id K
  have hl : lv_has ls 3 [(0, .ref (ad 0)), (1, .int (iI (k)))] := hl
  refine lv_aload_n hx hb dX11_needPayment_0 rfl (lv_at hl 0 rfl) ?_
  refine g_get (ref := RX11) (T := TX11) (N := 1) (ci := 12) hx hb hts wsC_X11 hown hK hW (100000 + 0) (kW_at rfl) rfl 0 (by decide) (hts _ lC_X11_10) (fun x h => h) (v := .ref (ad 1)) rfl dX11_needPayment_1 ?_
  refine g_get (ref := RX6) (T := TX6) (N := 8) (ci := 7) hx hb hts wsC_X6 hown hK hW (100000 + 1) (kW_at rfl) rfl 2 (by decide) (hts _ lC_X11_105) (fun x h => h) (v := .ref (ad 5)) rfl dX11_needPayment_4 ?_
  refine lv_iload_n hx hb dX11_needPayment_7 rfl (lv_at hl 1 rfl) ?_
  refine g_callV (i := 100000 + 5) (As := [.int (iI (k))]) (rest := []) K (c_X8_find (k) hwf ⟨by omega, by omega⟩) (cwV 1 hts gC_X11_264 rfl rfl rfl (by decide +kernel) ⟨Nat.le_of_ble_eq_true rfl, Nat.le_of_ble_eq_true rfl⟩) hK hW (kW_at rfl) rfl rfl hl.1 rfl (Nat.le_of_ble_eq_true rfl) dX11_needPayment_8 ⟨by dsimp only; omega, by dsimp only; omega⟩ (fun v_ f_ H locs hp hW => ?_)
  obtain ⟨hpv, hpe⟩ := hp
  rw [hpe] at hW
  subst hpv
  refine xp_astore_n (lv' := [(2, pR ad (kFind S (k))), (0, .ref (ad 0)), (1, .int (iI (k)))]) hx hb dX11_needPayment_11 rfl hl (by decide) (by simp [pR_cat, cat_i, cat_l, cat_r, cat_n] <;> decide) (fun ls hl => ?_)
  refine xp_aload_n hx hb dX11_needPayment_12 rfl (lv_at hl 0 rfl) ?_
  refine xp_ifnonnull (tgt := 27) hx hb dX11_needPayment_13 (by decide) (fun c_1 => ?_) (fun c_1 => ?_)
  · have hkk : 0 ≤ k ∧ k < S.1 8 0 := Decidable.byContradiction (fun h => c_1 (by unfold kFind; rw [if_neg h]))
    have hfk : kFind S k = k := by unfold kFind; rw [if_pos hkk]
    rw [hfk] at hl
    refine xp_aload_n hx hb dX11_needPayment_27 rfl (lv_at hl 0 rfl) ?_
    refine xp_ref (k := k) (by omega) ?_
    exact W.widen (by first | omega | (dsimp only; omega)) (by first | omega | (dsimp only; omega)) (vx_ret (g_aret hx hb hr (Or.inr ⟨_, rfl⟩) hW ⟨hkk, rfl, rfl⟩ dX11_needPayment_28 hlk))
  · have hkk : ¬ (0 ≤ k ∧ k < S.1 8 0) := fun h => by have e := c_1; unfold kFind at e; rw [if_pos h] at e; omega
    exact g_throwXW (is := 266) (text := "no such payment") hx hb hst hown hK (by decide +kernel) (hts _ hC_X11_213) (hts _ (wsC_sub _ wsCw_489)) (fun w h => hts w (wsC_vio w h)) xng_io (List.mem_of_getElem? (i := 11) rfl) xvo_io (List.mem_of_getElem? (i := 6) rfl) hW (by rw [hml]; exact hl.1) ht hlk ⟨rfl, hkk⟩ (fun _ _ h => h) dX11_needPayment_16 dX11_needPayment_19 dX11_needPayment_20 dX11_needPayment_23 dX11_needPayment_26 (Nat.le_of_ble_eq_true rfl) (Nat.le_of_ble_eq_true rfl) (by first | omega | (dsimp only; omega)) (by first | omega | (dsimp only; omega)) (by first | omega | (dsimp only; omega)) (by first | omega | (dsimp only; omega))
