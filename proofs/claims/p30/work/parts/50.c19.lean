theorem wf_book {S : ST} (hw : wf S) (b o c : Int) (v : Int64) (k : Int) (he : S.1 31 0 < 20000) : wf (sBook S b o c v k) := by
  have h31 := wf_31 hw 0
  have h : wf (pI S 31 0 (S.1 31 0 + 1)) := wf_pI hw 0 _ ⟨by simp only [rLo]; omega, by simp only [rHi]; omega⟩
  exact h
def sPy (S : ST) (k : Int) : ST := pL (pL (sBook S (S.1 9 k) (S.1 10 k) (S.1 11 k) (Int64.ofInt (S.1 12 k)) k) 4 (3 * (6 * S.1 9 k + S.1 10 k) + S.1 11 k) ((sBook S (S.1 9 k) (S.1 10 k) (S.1 11 k) (Int64.ofInt (S.1 12 k)) k).2 4 (3 * (6 * S.1 9 k + S.1 10 k) + S.1 11 k) + Int64.ofInt (S.1 12 k))) 4 (3 * (6 * S.1 10 k + S.1 9 k) + S.1 11 k) ((pL (sBook S (S.1 9 k) (S.1 10 k) (S.1 11 k) (Int64.ofInt (S.1 12 k)) k) 4 (3 * (6 * S.1 9 k + S.1 10 k) + S.1 11 k) ((sBook S (S.1 9 k) (S.1 10 k) (S.1 11 k) (Int64.ofInt (S.1 12 k)) k).2 4 (3 * (6 * S.1 9 k + S.1 10 k) + S.1 11 k) + Int64.ofInt (S.1 12 k))).2 4 (3 * (6 * S.1 10 k + S.1 9 k) + S.1 11 k) + Int64.ofInt (-(S.1 12 k)))
set_option maxHeartbeats 4000000 in
set_option maxRecDepth 100000 in
theorem c_X0_pay {l : Launch} {D : va_G} {cy : Nat → ClassId} {B0 : Nat} {ad bk : Nat → Nat} {S : ST} {I : Int → Bool} {cX qX : Int → Int64} {G : gF} (k : Int) (hwf : wf S) (h0 : 0 ≤ k) (h1 : k < S.1 8 0) (hG0 : G 50001 = none) (he : S.1 31 0 < 20000) (hE0 : nE S = 0 → bk 10 = D.1 21) : gM l yX0_pay vX0_pay 9 203 D cy B0 [.ref (ad 3), .ref (ad (1001 + 2 * (k).toNat)), .int (iI (k))] (kW cy ad bk S (I, cX, qX) G) (fun r g_ => r = none ∧ ∃ q q2 : Nat, g_ = kW cy ad (adK bk (nE S) q q2) (sPy S k) (I, cX, qX) G) (1 + kmc (nE S)) (5 + kms (nE S)) := by
  refine g_start (cc := cX0_pay) (maxL := 3) (ret := none) (by decide) rfl (Nat.le_of_ble_eq_true rfl) ?_
  intro p_ e_ s_ m_ be_ me_ co_ ls H locs K hr hlk hnm hK hW hl
  obtain ⟨hx, hb, hml, hown, hts⟩ := id K
  have hl : lv_has ls 3 [(0, .ref (ad 3)), (1, .ref (ad (1001 + 2 * (k).toNat))), (2, .int (iI (k)))] := hl
  have h8 := wf_8 hwf 0
  refine lv_aload_n hx hb dX0_pay_0 rfl (lv_at hl 0 rfl) ?_
  refine lv_aload_n hx hb dX0_pay_1 rfl (lv_at hl 1 rfl) ?_
  refine g_get (ref := RX10) (T := TX10) (N := 9) (ci := 11) hx hb hts wsC_X10 hown hK hW (100000 + (1001 + 2 * (k).toNat)) (kW_at (kC_trm hwf (by omega) (show (k) < S.1 8 0 from by omega))) rfl 0 (by decide) (hts _ lC_X0_66) (fun x h => h) (v := .int (iI (S.1 9 (k)))) rfl dX0_pay_2 ?_
  have w_1 := wf_9 hwf (k)
  refine lv_aload_n hx hb dX0_pay_5 rfl (lv_at hl 1 rfl) ?_
  refine g_get (ref := RX10) (T := TX10) (N := 9) (ci := 11) hx hb hts wsC_X10 hown hK hW (100000 + (1001 + 2 * (k).toNat)) (kW_at (kC_trm hwf (by omega) (show (k) < S.1 8 0 from by omega))) rfl 1 (by decide) (hts _ lC_X0_72) (fun x h => h) (v := .int (iI (S.1 10 (k)))) rfl dX0_pay_6 ?_
  have w_2 := wf_10 hwf (k)
  refine lv_aload_n hx hb dX0_pay_9 rfl (lv_at hl 1 rfl) ?_
  refine g_get (ref := RX10) (T := TX10) (N := 9) (ci := 11) hx hb hts wsC_X10 hown hK hW (100000 + (1001 + 2 * (k).toNat)) (kW_at (kC_trm hwf (by omega) (show (k) < S.1 8 0 from by omega))) rfl 2 (by decide) (hts _ lC_X0_75) (fun x h => h) (v := .int (iI (S.1 11 (k)))) rfl dX0_pay_10 ?_
  have w_3 := wf_11 hwf (k)
  refine lv_aload_n hx hb dX0_pay_13 rfl (lv_at hl 1 rfl) ?_
  refine g_get (ref := RX10) (T := TX10) (N := 9) (ci := 11) hx hb hts wsC_X10 hown hK hW (100000 + (1001 + 2 * (k).toNat)) (kW_at (kC_trm hwf (by omega) (show (k) < S.1 8 0 from by omega))) rfl 3 (by decide) (hts _ lC_X0_78) (fun x h => h) (v := .int (iI (S.1 12 (k)))) rfl dX0_pay_14 ?_
  have w_4 := wf_12 hwf (k)
  refine xi_i2l hx hb ⟨by omega, by omega⟩ dX0_pay_17 ?_
  refine lv_iload_n hx hb dX0_pay_18 rfl (lv_at hl 2 rfl) ?_
  refine g_callV (i := 100000 + 3) (As := [.int (iI (S.1 9 (k))), .int (iI (S.1 10 (k))), .int (iI (S.1 11 (k))), .long (Int64.ofInt (S.1 12 (k))), .int (iI (k))]) (rest := []) K (c_X0_move (S.1 9 (k)) (S.1 10 (k)) (S.1 11 (k)) (Int64.ofInt (S.1 12 (k))) (k) hwf ⟨by omega, by omega⟩ ⟨by omega, by omega⟩ ⟨by omega, by omega⟩ ⟨by omega, by omega⟩ hG0 he hE0) (cwV 5 hts gC_X0_81 rfl rfl rfl (by decide +kernel) ⟨Nat.le_of_ble_eq_true rfl, Nat.le_of_ble_eq_true rfl⟩) hK hW (kW_at rfl) rfl rfl hl.1 rfl (Nat.le_of_ble_eq_true rfl) dX0_pay_19 ⟨by show 0 + (1 + kmc (nE S)) ≤ 1 + kmc (nE S); omega, by show 0 + (5 + kms (nE S)) ≤ 5 + kms (nE S); omega⟩ (fun v_ f_ H locs hp hW => ?_)
  obtain ⟨hpv, q, q2, hpe⟩ := hp
  rw [hpe] at hW
  subst hpv
  refine lv_aload_n hx hb dX0_pay_22 rfl (lv_at hl 0 rfl) ?_
  refine g_get (ref := RX0) (T := TX0) (N := 5) (ci := 1) hx hb hts wsC_X0 hown hK hW (100000 + 3) (kW_at rfl) rfl 3 (by decide) (hts _ lC_X0_30) (fun x h => h) (v := .ref (ad 23)) rfl dX0_pay_23 ?_
  refine lv_aload_n hx hb dX0_pay_26 rfl (lv_at hl 1 rfl) ?_
  refine g_get (ref := RX10) (T := TX10) (N := 9) (ci := 11) hx hb hts wsC_X10 hown hK hW (100000 + (1001 + 2 * (k).toNat)) (kW_at (kC_trm (wf_book hwf _ _ _ _ _ he) (by omega) (show (k) < (sBook S (S.1 9 (k)) (S.1 10 (k)) (S.1 11 (k)) (Int64.ofInt (S.1 12 (k))) k).1 8 0 from h1))) rfl 0 (by decide) (hts _ lC_X0_66) (fun x h => h) (v := .int (iI (S.1 9 (k)))) rfl dX0_pay_27 ?_
  have w_5 := wf_9 hwf (k)
  refine lv_aload_n hx hb dX0_pay_30 rfl (lv_at hl 1 rfl) ?_
  refine g_get (ref := RX10) (T := TX10) (N := 9) (ci := 11) hx hb hts wsC_X10 hown hK hW (100000 + (1001 + 2 * (k).toNat)) (kW_at (kC_trm (wf_book hwf _ _ _ _ _ he) (by omega) (show (k) < (sBook S (S.1 9 (k)) (S.1 10 (k)) (S.1 11 (k)) (Int64.ofInt (S.1 12 (k))) k).1 8 0 from h1))) rfl 1 (by decide) (hts _ lC_X0_72) (fun x h => h) (v := .int (iI (S.1 10 (k)))) rfl dX0_pay_31 ?_
  have w_6 := wf_10 hwf (k)
  refine lv_aload_n hx hb dX0_pay_34 rfl (lv_at hl 1 rfl) ?_
  refine g_get (ref := RX10) (T := TX10) (N := 9) (ci := 11) hx hb hts wsC_X10 hown hK hW (100000 + (1001 + 2 * (k).toNat)) (kW_at (kC_trm (wf_book hwf _ _ _ _ _ he) (by omega) (show (k) < (sBook S (S.1 9 (k)) (S.1 10 (k)) (S.1 11 (k)) (Int64.ofInt (S.1 12 (k))) k).1 8 0 from h1))) rfl 2 (by decide) (hts _ lC_X0_75) (fun x h => h) (v := .int (iI (S.1 11 (k)))) rfl dX0_pay_35 ?_
  have w_7 := wf_11 hwf (k)
  refine g_callSN (As := [.int (iI (S.1 9 (k))), .int (iI (S.1 10 (k))), .int (iI (S.1 11 (k)))]) (rest := [.ref (ad 23)]) K (c_X11_pairSlot (S.1 9 (k)) (S.1 10 (k)) (S.1 11 (k))) ⟨va_cnB 3 hts gC_X11_pairSlot rfl rfl rfl (hK.2.1 _ (List.mem_of_getElem? (i := 3) rfl)) (hts _ iC_X11) (by decide +kernel) ⟨Nat.le_of_ble_eq_true rfl, Nat.le_of_ble_eq_true rfl⟩, hts _ sC_X11_pairSlot, trivial⟩ hK hW rfl hl.1 rfl (Nat.le_of_ble_eq_true rfl) dX0_pay_38 ⟨by dsimp only; omega, by dsimp only; omega⟩ (fun v_ f_ H locs hp hW => ?_)
  obtain ⟨hpv, hpe⟩ := hp
  rw [hpe] at hW
  subst hpv
  refine lv_aload_n hx hb dX0_pay_41 rfl (lv_at hl 1 rfl) ?_
  refine g_get (ref := RX10) (T := TX10) (N := 9) (ci := 11) hx hb hts wsC_X10 hown hK hW (100000 + (1001 + 2 * (k).toNat)) (kW_at (kC_trm (wf_book hwf _ _ _ _ _ he) (by omega) (show (k) < (sBook S (S.1 9 (k)) (S.1 10 (k)) (S.1 11 (k)) (Int64.ofInt (S.1 12 (k))) k).1 8 0 from h1))) rfl 3 (by decide) (hts _ lC_X0_78) (fun x h => h) (v := .int (iI (S.1 12 (k)))) rfl dX0_pay_42 ?_
  have w_8 := wf_12 hwf (k)
  refine xi_i2l hx hb ⟨by omega, by omega⟩ dX0_pay_45 ?_
  refine g_callV (i := 100000 + 23) (As := [.int (iI (3 * (6 * (S.1 9 (k)) + (S.1 10 (k))) + (S.1 11 (k)))), .long (Int64.ofInt (S.1 12 (k)))]) (rest := []) K (c_X9_add (i := 100000 + 23) (j := 100000 + (40 + 3)) (3 * (6 * (S.1 9 (k)) + (S.1 10 (k))) + (S.1 11 (k))) (Int64.ofInt (S.1 12 (k))) (kW_at rfl) (kW_at (kC_row (r := 3) (by decide))) (by decide) (by decide) (show 0 ≤ (3 * (6 * (S.1 9 (k)) + (S.1 10 (k))) + (S.1 11 (k))) ∧ (3 * (6 * (S.1 9 (k)) + (S.1 10 (k))) + (S.1 11 (k))) < ((108 : Nat) : Int) from ⟨by omega, by omega⟩)) (cwV 2 hts gC_X0_54 rfl rfl rfl (by decide +kernel) ⟨Nat.le_of_ble_eq_true rfl, Nat.le_of_ble_eq_true rfl⟩) hK hW (kW_at rfl) rfl rfl hl.1 rfl (Nat.le_of_ble_eq_true rfl) dX0_pay_46 ⟨by dsimp only; omega, by dsimp only; omega⟩ (fun v_ f_ H locs hp hW => ?_)
  obtain ⟨hpv, hpe⟩ := hp
  rw [hpe.trans (kW_r3 (cy := cy) (ad := ad) (bk := (adK bk (nE S) q q2)) (S := (sBook S (S.1 9 (k)) (S.1 10 (k)) (S.1 11 (k)) (Int64.ofInt (S.1 12 (k))) k)) (X := (I, cX, qX)) (G := G) (z := 3 * (6 * (S.1 9 (k)) + (S.1 10 (k))) + (S.1 11 (k))) (v := (sBook S (S.1 9 (k)) (S.1 10 (k)) (S.1 11 (k)) (Int64.ofInt (S.1 12 (k))) k).2 4 (3 * (6 * (S.1 9 (k)) + (S.1 10 (k))) + (S.1 11 (k))) + (Int64.ofInt (S.1 12 (k)))))] at hW
  subst hpv
  refine lv_aload_n hx hb dX0_pay_49 rfl (lv_at hl 0 rfl) ?_
  refine g_get (ref := RX0) (T := TX0) (N := 5) (ci := 1) hx hb hts wsC_X0 hown hK hW (100000 + 3) (kW_at rfl) rfl 3 (by decide) (hts _ lC_X0_30) (fun x h => h) (v := .ref (ad 23)) rfl dX0_pay_50 ?_
  refine lv_aload_n hx hb dX0_pay_53 rfl (lv_at hl 1 rfl) ?_
  refine g_get (ref := RX10) (T := TX10) (N := 9) (ci := 11) hx hb hts wsC_X10 hown hK hW (100000 + (1001 + 2 * (k).toNat)) (kW_at (kC_trm (wf_book hwf _ _ _ _ _ he) (by omega) (show (k) < (sBook S (S.1 9 (k)) (S.1 10 (k)) (S.1 11 (k)) (Int64.ofInt (S.1 12 (k))) k).1 8 0 from h1))) rfl 1 (by decide) (hts _ lC_X0_72) (fun x h => h) (v := .int (iI (S.1 10 (k)))) rfl dX0_pay_54 ?_
  have w_9 := wf_10 hwf (k)
  refine lv_aload_n hx hb dX0_pay_57 rfl (lv_at hl 1 rfl) ?_
  refine g_get (ref := RX10) (T := TX10) (N := 9) (ci := 11) hx hb hts wsC_X10 hown hK hW (100000 + (1001 + 2 * (k).toNat)) (kW_at (kC_trm (wf_book hwf _ _ _ _ _ he) (by omega) (show (k) < (sBook S (S.1 9 (k)) (S.1 10 (k)) (S.1 11 (k)) (Int64.ofInt (S.1 12 (k))) k).1 8 0 from h1))) rfl 0 (by decide) (hts _ lC_X0_66) (fun x h => h) (v := .int (iI (S.1 9 (k)))) rfl dX0_pay_58 ?_
  have w_10 := wf_9 hwf (k)
  refine lv_aload_n hx hb dX0_pay_61 rfl (lv_at hl 1 rfl) ?_
  refine g_get (ref := RX10) (T := TX10) (N := 9) (ci := 11) hx hb hts wsC_X10 hown hK hW (100000 + (1001 + 2 * (k).toNat)) (kW_at (kC_trm (wf_book hwf _ _ _ _ _ he) (by omega) (show (k) < (sBook S (S.1 9 (k)) (S.1 10 (k)) (S.1 11 (k)) (Int64.ofInt (S.1 12 (k))) k).1 8 0 from h1))) rfl 2 (by decide) (hts _ lC_X0_75) (fun x h => h) (v := .int (iI (S.1 11 (k)))) rfl dX0_pay_62 ?_
  have w_11 := wf_11 hwf (k)
  refine g_callSN (As := [.int (iI (S.1 10 (k))), .int (iI (S.1 9 (k))), .int (iI (S.1 11 (k)))]) (rest := [.ref (ad 23)]) K (c_X11_pairSlot (S.1 10 (k)) (S.1 9 (k)) (S.1 11 (k))) ⟨va_cnB 3 hts gC_X11_pairSlot rfl rfl rfl (hK.2.1 _ (List.mem_of_getElem? (i := 3) rfl)) (hts _ iC_X11) (by decide +kernel) ⟨Nat.le_of_ble_eq_true rfl, Nat.le_of_ble_eq_true rfl⟩, hts _ sC_X11_pairSlot, trivial⟩ hK hW rfl hl.1 rfl (Nat.le_of_ble_eq_true rfl) dX0_pay_65 ⟨by dsimp only; omega, by dsimp only; omega⟩ (fun v_ f_ H locs hp hW => ?_)
  obtain ⟨hpv, hpe⟩ := hp
  rw [hpe] at hW
  subst hpv
  refine lv_aload_n hx hb dX0_pay_68 rfl (lv_at hl 1 rfl) ?_
  refine g_get (ref := RX10) (T := TX10) (N := 9) (ci := 11) hx hb hts wsC_X10 hown hK hW (100000 + (1001 + 2 * (k).toNat)) (kW_at (kC_trm (wf_book hwf _ _ _ _ _ he) (by omega) (show (k) < (sBook S (S.1 9 (k)) (S.1 10 (k)) (S.1 11 (k)) (Int64.ofInt (S.1 12 (k))) k).1 8 0 from h1))) rfl 3 (by decide) (hts _ lC_X0_78) (fun x h => h) (v := .int (iI (S.1 12 (k)))) rfl dX0_pay_69 ?_
  have w_12 := wf_12 hwf (k)
  refine xi_ineg hx hb dX0_pay_72 ?_
  refine xi_i2l hx hb ⟨by omega, by omega⟩ dX0_pay_73 ?_
  refine g_callV (i := 100000 + 23) (As := [.int (iI (3 * (6 * (S.1 10 (k)) + (S.1 9 (k))) + (S.1 11 (k)))), .long (Int64.ofInt (-(S.1 12 (k))))]) (rest := []) K (c_X9_add (i := 100000 + 23) (j := 100000 + (40 + 3)) (3 * (6 * (S.1 10 (k)) + (S.1 9 (k))) + (S.1 11 (k))) (Int64.ofInt (-(S.1 12 (k)))) (kW_at rfl) (kW_at (kC_row (r := 3) (by decide))) (by decide) (by decide) (show 0 ≤ (3 * (6 * (S.1 10 (k)) + (S.1 9 (k))) + (S.1 11 (k))) ∧ (3 * (6 * (S.1 10 (k)) + (S.1 9 (k))) + (S.1 11 (k))) < ((108 : Nat) : Int) from ⟨by omega, by omega⟩)) (cwV 2 hts gC_X0_54 rfl rfl rfl (by decide +kernel) ⟨Nat.le_of_ble_eq_true rfl, Nat.le_of_ble_eq_true rfl⟩) hK hW (kW_at rfl) rfl rfl hl.1 rfl (Nat.le_of_ble_eq_true rfl) dX0_pay_74 ⟨by dsimp only; omega, by dsimp only; omega⟩ (fun v_ f_ H locs hp hW => ?_)
  obtain ⟨hpv, hpe⟩ := hp
  rw [hpe.trans (kW_r3 (cy := cy) (ad := ad) (bk := (adK bk (nE S) q q2)) (S := (pL (sBook S (S.1 9 (k)) (S.1 10 (k)) (S.1 11 (k)) (Int64.ofInt (S.1 12 (k))) k) 4 (3 * (6 * (S.1 9 (k)) + (S.1 10 (k))) + (S.1 11 (k))) ((sBook S (S.1 9 (k)) (S.1 10 (k)) (S.1 11 (k)) (Int64.ofInt (S.1 12 (k))) k).2 4 (3 * (6 * (S.1 9 (k)) + (S.1 10 (k))) + (S.1 11 (k))) + (Int64.ofInt (S.1 12 (k)))))) (X := (I, cX, qX)) (G := G) (z := 3 * (6 * (S.1 10 (k)) + (S.1 9 (k))) + (S.1 11 (k))) (v := (pL (sBook S (S.1 9 (k)) (S.1 10 (k)) (S.1 11 (k)) (Int64.ofInt (S.1 12 (k))) k) 4 (3 * (6 * (S.1 9 (k)) + (S.1 10 (k))) + (S.1 11 (k))) ((sBook S (S.1 9 (k)) (S.1 10 (k)) (S.1 11 (k)) (Int64.ofInt (S.1 12 (k))) k).2 4 (3 * (6 * (S.1 9 (k)) + (S.1 10 (k))) + (S.1 11 (k))) + (Int64.ofInt (S.1 12 (k))))).2 4 (3 * (6 * (S.1 10 (k)) + (S.1 9 (k))) + (S.1 11 (k))) + (Int64.ofInt (-(S.1 12 (k))))))] at hW
  subst hpv
  exact W.widen (by show 0 + (1 + kmc (nE S)) ≤ 1 + kmc (nE S); omega) (by show 0 + (5 + kms (nE S)) ≤ 5 + kms (nE S); omega) (g_vret hx hb hr hW ⟨rfl, q, q2, rfl⟩ dX0_pay_77 hlk)
