theorem sEnter_g (X : ST) (k : Int) : sEnter (gCome X k) k = gCome (sEnter X k) k := by
  have e : sEntV (gCome X k) k = sEntV X k := by simp [sEntV, gCome, pI]
  unfold sEnter
  rw [e]
  refine Prod.ext ?_ rfl
  funext f j
  simp only [gCome, pI]
  by_cases h18 : f = 18
  · subst h18; simp
  · simp [h18]
theorem sOpen_of {S T : ST} (h : T.1 6 = S.1 6) (c d : Int) : sOpen T c d = sOpen S c d := by
  unfold sOpen
  rw [h]
theorem sCome_y (S : ST) (b u c v nm h : Int) (rl : Bool) (d : Int) (st : Bool) (h1 : d ≤ S.1 0 0) (h2 : sOpen S c (S.1 0 0) = true) : sEnter (gCome (sCom1 S b u c v nm h rl d st) (S.1 8 0)) (S.1 8 0) = sCome S b u c v nm h rl d st := by
  rw [sEnter_g]
  unfold sCome
  rw [decide_eq_true h1, h2, if_pos (by rfl)]
theorem sCome_n (S : ST) (b u c v nm h : Int) (rl : Bool) (d : Int) (st : Bool) (hq : ¬ d ≤ S.1 0 0 ∨ sOpen S c (S.1 0 0) = false) : (gCome (sCom1 S b u c v nm h rl d st) (S.1 8 0)) = sCome S b u c v nm h rl d st := by
  unfold sCome
  rcases hq with h1 | h1
  · rw [decide_eq_false h1, Bool.false_and, if_neg (by decide)]
  · rw [h1, Bool.and_false, if_neg (by decide)]
theorem opT_0 (S : ST) (b u c v nm h : Int) (rl : Bool) (d : Int) (st : Bool) : (gCome (sCom1 S b u c v nm h rl d st) (S.1 8 0)).1 0 = S.1 0 ∧ (gCome (sCom1 S b u c v nm h rl d st) (S.1 8 0)).1 6 = S.1 6 ∧ (gCome (sCom1 S b u c v nm h rl d st) (S.1 8 0)).1 16 (S.1 8 0) = d ∧ (gCome (sCom1 S b u c v nm h rl d st) (S.1 8 0)).1 11 (S.1 8 0) = c := by
  refine ⟨opT_f S b u c v nm h rl d st (by omega), opT_f S b u c v nm h rl d st (by omega), ?_, ?_⟩ <;> simp [gCome, sCom1, pI]
theorem okS_gCome {S : ST} (h : okS S) (k : Int) : okS (gCome S k) := by
  unfold gCome
  exact okS_pI (okS_pI (okS_pI h k (-1) (by decide) (by simp only [rLo, rHi]; omega)) k (-1) (by decide) (by simp only [rLo, rHi]; omega)) k (-1) (by decide) (by simp only [rLo, rHi]; omega)
theorem okS_18w {S : ST} (h : okS S) {k : Int} : wf (sEnter S k) := by
  have := sEntV_r S k
  exact wf_pI h.1 _ _ (by simp only [rLo, rHi]; omega)
set_option maxHeartbeats 4000000 in
set_option maxRecDepth 100000 in
theorem c_X6_bringIn {l : Launch} {D : va_G} {cy : Nat → ClassId} {B0 : Nat} {ad bk : Nat → Nat} {S : ST} {I : Int → Bool} {cX qX : Int → Int64} {G : gF} (b : Int) (u : Int) (c : Int) (v : Int) (nm : Int) (h : Int) (rl : Bool) (d : Int) (st : Bool) (hwf : wf S) {t : Nat} (hlr : ∀ k : Int, 0 ≤ k → k < S.1 8 0 → S.1 21 k < S.1 8 0) (h60 : S.1 8 0 < 60) (h19 : S.1 19 (S.1 8 0) = 0) (h24 : S.1 24 (S.1 8 0) = 0) (hG2 : G 50002 = none) (hG3 : G 50003 = some (t, .inr (11, [.int (iI b), .int (iI u), .int (iI c), .int (iI v), .int (iI nm), .int (iI h), .int (iI (bI rl)), .int (iI d), .int (iI (bI st))]))) (hb0 : 0 ≤ b ∧ b ≤ 5) (hu : 0 ≤ u ∧ u ≤ 5) (hc : 0 ≤ c ∧ c ≤ 2) (hv : 0 ≤ v ∧ v ≤ 1000000) (hnn : 0 ≤ nm ∧ nm ≤ 19) (hh : 0 ≤ h ∧ h ≤ 2) (hd : 0 ≤ d ∧ d ≤ 999) (ho : okS S) (h18 : S.1 18 (S.1 8 0) ≠ 4) (hP0 : nP S = 0 → ad 11 = D.1 21) : gM l yX6_bringIn vX6_bringIn 8 178 D cy B0 [.ref (ad 1), .ref (t)] (kW cy ad bk S (I, cX, qX) G) (fun r g_ => ∃ ad2 : Nat → Nat, (∀ i : Nat, i ≠ 11 → i ≠ 93 → i < 1000 + 2 * nP S → ad2 i = ad i) ∧ r = some (.int (iI (S.1 8 0))) ∧ g_ = kW cy ad2 bk (sCome S b u c v nm h rl d st) (I, cX, qX) (gno G 50003)) 2 139 := by
  refine g_start (cc := cX6_bringIn) (maxL := 3) (ret := (some .int)) (by decide) rfl (Nat.le_of_ble_eq_true rfl) ?_
  intro p_ e_ s_ m_ be_ me_ co_ ls H locs K hr hlk hnm hK hW hl
  obtain ⟨hx, hb, hml, hown, hts⟩ := id K
  have hl : lv_has ls 3 [(0, .ref (ad 1)), (1, .ref (t))] := hl
  refine lv_aload_n hx hb dX6_bringIn_0 rfl (lv_at hl 0 rfl) ?_
  refine g_get (ref := RX6) (T := TX6) (N := 8) (ci := 7) hx hb hts wsC_X6 hown hK hW (100000 + 1) (kW_at rfl) rfl 2 (by decide) (hts _ lC_X6_28) (fun x h => h) (v := .ref (ad 5)) rfl dX6_bringIn_1 ?_
  refine lv_aload_n hx hb dX6_bringIn_4 rfl (lv_at hl 1 rfl) ?_
  refine g_callV (i := 100000 + 5) (As := [.ref (t)]) (rest := []) K (c_X8_open b u c v nm h rl d st hwf hlr h60 h19 h24 hG2 hG3 hP0) (cwV 1 hts gC_X6_58 rfl rfl rfl (by decide +kernel) ⟨Nat.le_of_ble_eq_true rfl, Nat.le_of_ble_eq_true rfl⟩) hK hW (kW_at rfl) rfl rfl hl.1 rfl (Nat.le_of_ble_eq_true rfl) dX6_bringIn_5 ⟨by dsimp only; omega, by dsimp only; omega⟩ (fun v_ f_ H locs hp hW => ?_)
  obtain ⟨ad, hadO, hadT, hpv, hpe⟩ := hp
  rw [hpe] at hW
  subst hpv
  obtain ⟨T, hT⟩ : ∃ x : ST, x = (gCome (sCom1 S b u c v nm h rl d st) (S.1 8 0)) := ⟨_, rfl⟩
  rw [← hT] at hW
  have had1 := hadO 1 (by decide) (by decide) (by omega)
  have hl : lv_has ls 3 [(0, .ref (ad 1)), (1, .ref (ad (1001 + 2 * (S.1 8 0).toNat)))] := by rw [had1, hadT]; exact hl
  have hTo : okS T := by rw [hT]; exact okS_gCome (okS_com1 ho h60 h18 hb0 hu hc hv hnn hh hd) _
  have hT8 : T.1 8 0 = S.1 8 0 + 1 := by rw [hT]; exact (opT S b u c v nm h rl d st).2.1
  obtain ⟨hT0, hT6, hT16, hT11⟩ := opT_0 S b u c v nm h rl d st
  rw [← hT] at hT0 hT6 hT16 hT11
  have h8T := wf_8 hwf 0
  have h0T := wf_0 hwf 0
  skip
  refine lv_astore_n (lv' := [(2, .ref (ad (1000 + 2 * (S.1 8 0).toNat))), (0, .ref (ad 1)), (1, .ref (ad (1001 + 2 * (S.1 8 0).toNat)))]) hx hb dX6_bringIn_8 rfl hl (by decide) rfl (fun ls hl => ?_)
  refine lv_aload_n hx hb dX6_bringIn_9 rfl (lv_at hl 2 rfl) ?_
  refine g_get (ref := RX10) (T := TX10) (N := 9) (ci := 11) hx hb hts wsC_X10 hown hK hW (100000 + (1001 + 2 * (S.1 8 0).toNat)) (kW_at (kC_trm (hTo.1) (by omega) (show (S.1 8 0) < T.1 8 0 from by omega))) rfl 7 (by decide) (hts _ lC_X6_62) (fun x h => h) (v := .int (iI (T.1 16 (S.1 8 0)))) rfl dX6_bringIn_10 ?_
  have w_1 := wf_16 hTo.1 (S.1 8 0)
  refine lv_aload_n hx hb dX6_bringIn_13 rfl (lv_at hl 1 rfl) ?_
  refine g_get (ref := RX6) (T := TX6) (N := 8) (ci := 7) hx hb hts wsC_X6 hown hK hW (100000 + 1) (kW_at rfl) rfl 0 (by decide) (hts _ lC_X6_12) (fun x h => h) (v := .ref (ad 2)) rfl dX6_bringIn_14 ?_
  refine g_get (ref := RX4) (T := TX4) (N := 2) (ci := 5) hx hb hts wsC_X4 hown hK hW (100000 + 2) (kW_at rfl) rfl 0 (by decide) (hts _ lC_X6_68) (fun x h => h) (v := .int (iI (T.1 0 (0)))) rfl dX6_bringIn_17 ?_
  have w_2 := wf_0 hTo.1 (0)
  refine xi_icmp_gt (tgt := 42) hx hb ⟨by omega, by omega⟩ ⟨by omega, by omega⟩ dX6_bringIn_20 (by decide) (fun c_3 => ?_) (fun c_3 => ?_)
  · have hco : T = sCome S b u c v nm h rl d st := by rw [hT]; exact sCome_n S b u c v nm h rl d st (Or.inl (by rw [hT0, hT16] at c_3; omega))
    refine lv_aload_n hx hb dX6_bringIn_42 rfl (lv_at hl 0 rfl) ?_
    refine g_get (ref := RX7) (T := TX7) (N := 9) (ci := 8) hx hb hts wsC_X7 hown hK hW (100000 + (1000 + 2 * (S.1 8 0).toNat)) (kW_at (kC_pay (hTo.1) (by omega) (show (S.1 8 0) < T.1 8 0 from by omega))) rfl 0 (by decide) (hts _ lC_X6_80) (fun x h => h) (v := .int (iI (S.1 8 0))) rfl dX6_bringIn_43 ?_
    exact W.widen (Nat.le_refl _) (Nat.le_refl _) (g_iret hx hb hr hW ⟨ad, hadO, rfl, by rw [hco]⟩ dX6_bringIn_46 hlk)
  · refine lv_aload_n hx hb dX6_bringIn_23 rfl (lv_at hl 1 rfl) ?_
    refine g_get (ref := RX6) (T := TX6) (N := 8) (ci := 7) hx hb hts wsC_X6 hown hK hW (100000 + 1) (kW_at rfl) rfl 0 (by decide) (hts _ lC_X6_12) (fun x h => h) (v := .ref (ad 2)) rfl dX6_bringIn_24 ?_
    refine lv_aload_n hx hb dX6_bringIn_27 rfl (lv_at hl 2 rfl) ?_
    refine g_get (ref := RX10) (T := TX10) (N := 9) (ci := 11) hx hb hts wsC_X10 hown hK hW (100000 + (1001 + 2 * (S.1 8 0).toNat)) (kW_at (kC_trm (hTo.1) (by omega) (show (S.1 8 0) < T.1 8 0 from by omega))) rfl 2 (by decide) (hts _ lC_X6_69) (fun x h => h) (v := .int (iI (T.1 11 (S.1 8 0)))) rfl dX6_bringIn_28 ?_
    have w_4 := wf_11 hTo.1 (S.1 8 0)
    refine g_callV (i := 100000 + 2) (As := [.int (iI (T.1 11 (S.1 8 0)))]) (rest := []) K (c_X4_isOpenToday (T.1 11 (S.1 8 0)) (hTo.1) ⟨by omega, by omega⟩) (cwV 1 hts gC_X6_72 rfl rfl rfl (by decide +kernel) ⟨Nat.le_of_ble_eq_true rfl, Nat.le_of_ble_eq_true rfl⟩) hK hW (kW_at rfl) rfl rfl hl.1 rfl (Nat.le_of_ble_eq_true rfl) dX6_bringIn_31 ⟨by dsimp only; omega, by dsimp only; omega⟩ (fun v_ f_ H locs hp hW => ?_)
    obtain ⟨hpv, hpe⟩ := hp
    rw [hpe] at hW
    have hpv : v_ = some (.int (iI (bI (sOpen T (T.1 11 (S.1 8 0)) (T.1 0 0))))) := hpv
    subst hpv
    refine xi_ifb_eq (tgt := 42) hx hb dX6_bringIn_34 (by decide) (fun c_5 => ?_) (fun c_5 => ?_)
    · have hco : T = sCome S b u c v nm h rl d st := by rw [hT]; exact sCome_n S b u c v nm h rl d st (Or.inr (by rw [← sOpen_of hT6, ← hT0, ← hT11]; exact c_5))
      refine lv_aload_n hx hb dX6_bringIn_42 rfl (lv_at hl 0 rfl) ?_
      refine g_get (ref := RX7) (T := TX7) (N := 9) (ci := 8) hx hb hts wsC_X7 hown hK hW (100000 + (1000 + 2 * (S.1 8 0).toNat)) (kW_at (kC_pay (hTo.1) (by omega) (show (S.1 8 0) < T.1 8 0 from by omega))) rfl 0 (by decide) (hts _ lC_X6_80) (fun x h => h) (v := .int (iI (S.1 8 0))) rfl dX6_bringIn_43 ?_
      exact W.widen (Nat.le_refl _) (Nat.le_refl _) (g_iret hx hb hr hW ⟨ad, hadO, rfl, by rw [hco]⟩ dX6_bringIn_46 hlk)
    · refine lv_aload_n hx hb dX6_bringIn_37 rfl (lv_at hl 1 rfl) ?_
      refine lv_aload_n hx hb dX6_bringIn_38 rfl (lv_at hl 0 rfl) ?_
      refine g_callV (i := 100000 + 1) (As := [.ref (ad (1000 + 2 * (S.1 8 0).toNat))]) (rest := []) K (c_X6_letEnter (S.1 8 0) (hTo.1) (by omega) (by omega)) (cwV 1 hts gC_X6_76 rfl rfl rfl (by decide +kernel) ⟨Nat.le_of_ble_eq_true rfl, Nat.le_of_ble_eq_true rfl⟩) hK hW (kW_at rfl) rfl rfl hl.1 rfl (Nat.le_of_ble_eq_true rfl) dX6_bringIn_39 ⟨by dsimp only; omega, by dsimp only; omega⟩ (fun v_ f_ H locs hp hW => ?_)
      obtain ⟨hpv, hpe⟩ := hp
      rw [hpe] at hW
      subst hpv
      have hco : sEnter T (S.1 8 0) = sCome S b u c v nm h rl d st := by rw [hT]; exact sCome_y S b u c v nm h rl d st (by have h := c_3; rw [hT0, hT16] at h; exact h) (by rw [← sOpen_of hT6, ← hT0, ← hT11]; exact c_5)
      refine lv_aload_n hx hb dX6_bringIn_42 rfl (lv_at hl 0 rfl) ?_
      refine g_get (ref := RX7) (T := TX7) (N := 9) (ci := 8) hx hb hts wsC_X7 hown hK hW (100000 + (1000 + 2 * (S.1 8 0).toNat)) (kW_at (kC_pay (okS_18w hTo) (by omega) (show (S.1 8 0) < (sEnter T (S.1 8 0)).1 8 0 from (by show S.1 8 0 < (sEnter T (S.1 8 0)).1 8 0; unfold sEnter; rw [pI_f _ _ _ (by decide)]; omega)))) rfl 0 (by decide) (hts _ lC_X6_80) (fun x h => h) (v := .int (iI (S.1 8 0))) rfl dX6_bringIn_43 ?_
      exact W.widen (Nat.le_refl _) (Nat.le_refl _) (g_iret hx hb hr hW ⟨ad, hadO, rfl, by rw [hco]⟩ dX6_bringIn_46 hlk)
