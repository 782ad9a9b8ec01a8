theorem cnB_mono (I : Int → Bool) {a b : Nat} (h : a ≤ b) : cnB I a ≤ cnB I b := by
  induction b with
  | zero => rw [show a = 0 by omega]; exact Int.le_refl _
  | succ b ih =>
    by_cases e : a = b + 1
    · rw [e]; exact Int.le_refl _
    · have := ih (by omega)
      have h2 := bI_01 (I b)
      rw [cnB_s]
      omega
theorem set_facts {S : ST} {I : Int → Bool} (ho : okS S) (hI : ∀ j : Int, 0 ≤ j → j < nP S → I j = true → S.1 18 j ≠ 4) (he : S.1 31 0 + cNF S < 20000) {n : Nat} (hn : n ≤ nP S) : okS (sSets S I n) ∧ (∀ f : Nat, cht f → (sSets S I n).1 f = S.1 f) ∧ (∀ j : Int, n ≤ j → (sSets S I n).1 18 j = S.1 18 j) ∧ nE (sSets S I n) = nE S + (cnB I n).toNat ∧ (sSets S I n).1 31 0 < 20000 := by
  have h60 := nP_le ho.1
  obtain ⟨r1, r2, r3, r4⟩ := sSets_inv (I := I) ho n (by omega) (fun j a b c => hI j a (by omega) c)
  have h31 := sSets_31 S I n
  have h0 := cNF_nn (sSets S I n)
  have h1 := cnB_nn I n
  have h2 := wf_31 ho.1 0
  refine ⟨r1, r2, r3, ?_, by omega⟩
  unfold nE
  rw [h31]
  omega
set_option maxHeartbeats 4000000 in
set_option maxRecDepth 100000 in
theorem c_X6_settleBatch {l : Launch} {D : va_G} {cy : Nat → ClassId} {B0 : Nat} {ad bk : Nat → Nat} {S : ST} {I : Int → Bool} {cX qX : Int → Int64} {G : gF}  (hwf : wf S) (ho : okS S) (hI : ∀ j : Int, 0 ≤ j → j < nP S → I j = true → S.1 18 j ≠ 4) (he : S.1 31 0 + cNF S < 20000) (hG0 : G 50001 = none) (hE0 : nE S = 0 → bk 10 = D.1 21) : gM l yX6_settleBatch vX6_settleBatch 10 225 D cy B0 [.ref (ad 1)] (kW cy ad bk S (I, cX, qX) G) (fun r g_ => r = some (.int (iI (cnB I (nP S)))) ∧ ∃ bk2 : Nat → Nat, (nE (sSets S I (nP S)) = 0 → bk2 10 = D.1 21) ∧ g_ = kW cy ad bk2 (sSets S I (nP S)) (I, cX, qX) G) (kTc (nE (sSets S I (nP S))) - kTc (nE S)) (kTs (nE (sSets S I (nP S))) - kTs (nE S)) := by
  refine g_start (cc := cX6_settleBatch) (maxL := 4) (ret := (some .int)) (by decide) rfl (Nat.le_of_ble_eq_true rfl) ?_
  intro p_ e_ s_ m_ be_ me_ co_ ls H locs K hr hlk hnm hK hW hl
  obtain ⟨hx, hb, hml, hown, hts⟩ := id K
  have hl : lv_has ls 4 [(0, .ref (ad 1))] := hl
  have h80 := wf_8 hwf 0
  obtain ⟨_, _, _, hFn, _⟩ := set_facts ho hI he (n := nP S) (Nat.le_refl _)
  refine xi_iconst hx hb dX6_settleBatch_0 ?_
  refine lv_istore_n (lv' := [(1, .int (iI (0))), (0, .ref (ad 1))]) hx hb dX6_settleBatch_1 rfl hl (by decide) rfl (fun ls hl => ?_)
  refine xi_iconst hx hb dX6_settleBatch_2 ?_
  refine lv_istore_n (lv' := [(2, .int (iI (0))), (1, .int (iI (0))), (0, .ref (ad 1))]) hx hb dX6_settleBatch_3 rfl hl (by decide) rfl (fun ls hl => ?_)
  refine w_cs (cells' := kTc (nE (sSets S I (0 : Int).toNat)) - kTc (nE S)) (slots' := kTs (nE (sSets S I (0 : Int).toNat)) - kTs (nE S)) (Nat.sub_self _).symm (Nat.sub_self _).symm ?_
  refine lp_v1 (Wg := fun (z : Int × (Nat → Nat)) (H : Heap) (locs : List Loc) (ls : Array Slot) => W p_ l e_ { frames := 10, cells := kTc (nE (sSets S I (nP S))) - kTc (nE S), slots := kTs (nE (sSets S I (nP S))) - kTs (nE S), locals := 225 } s_ m_ ([.ref (ad 1)] : List Value).toArray be_ me_ co_ H locs (kTc (nE (sSets S I z.1.toNat)) - kTc (nE S)) (kTs (nE (sSets S I z.1.toNat)) - kTs (nE S)) (MQ be_ (gQ D B0 (fun (r : Option Value) (g_ : gF) => r = some (.int (iI (cnB I (nP S)))) ∧ ∃ bk2 : Nat → Nat, (nE (sSets S I (nP S)) = 0 → bk2 10 = D.1 21) ∧ g_ = kW cy ad bk2 (sSets S I (nP S)) (I, cX, qX) G)) ([.ref (ad 1)] : List Value).toArray s_ (kTc (nE (sSets S I (nP S))) - kTc (nE S)) (kTs (nE (sSets S I (nP S))) - kTs (nE S)) (fun q : Nat => B0 ≤ q)) (F0 m_ 4 ls [])) (fun (z : Int × (Nat → Nat)) (H : Heap) (locs : List Loc) (ls : Array Slot) => ((0 ≤ z.1 ∧ z.1 ≤ S.1 8 0) ∧ (nE (sSets S I z.1.toNat) = 0 → z.2 10 = D.1 21)) ∧ gW D B0 s_ (kW cy ad z.2 (sSets S I z.1.toNat) (I, cX, qX) G) H locs ∧ lv_has ls 4 [(2, .int (iI (z.1))), (1, .int (iI (cnB I z.1.toNat))), (0, .ref (ad 1))]) (fun z => (60 - z.1).toNat) (fun z H locs ls hI ih_lp_1 => ?_) ((0 : Int), bk) _ _ _ ⟨⟨⟨by show (0 : Int) ≤ 0; omega, by show (0 : Int) ≤ S.1 8 0; omega⟩, hE0⟩, hW, lv_sub hl [0, 1, 2] rfl⟩
  obtain ⟨hI_lp_1, hW, hl⟩ := hI
  obtain ⟨hk, hb2⟩ := hI_lp_1
  have h8 := wf_8 hwf 0
  obtain ⟨hYo, hYc, hY18, hYn, hYe⟩ := set_facts ho hI he (n := z.1.toNat) (by unfold nP; omega)
  have hY8 : (sSets S I z.1.toNat).1 8 0 = S.1 8 0 := by rw [hYc 8 (by unfold cht; decide)]
  have hcm := cnB_mono I (show z.1.toNat ≤ nP S by unfold nP; omega)
  have hc0 := cnB_nn I z.1.toNat
  have hEY : nE (sSets S I z.1.toNat) ≤ nE (sSets S I (nP S)) := by rw [hYn, hFn]; omega
  have hES : nE S ≤ nE (sSets S I z.1.toNat) := by rw [hYn]; omega
  have hk1 := kTc_le hEY
  have hk2 := kTs_le hEY
  have hk3 := kTc_le hES
  have hk4 := kTs_le hES
  have hcl := cnB_le I z.1.toNat
  refine lv_iload_n hx hb dX6_settleBatch_4 rfl (lv_at hl 0 rfl) ?_
  refine lv_aload_n hx hb dX6_settleBatch_5 rfl (lv_at hl 2 rfl) ?_
  refine g_get (ref := RX6) (T := TX6) (N := 8) (ci := 7) hx hb hts wsC_X6 hown hK hW (100000 + 1) (kW_at rfl) rfl 2 (by decide) (hts _ lC_X6_28) (fun x h => h) (v := .ref (ad 5)) rfl dX6_settleBatch_6 ?_
  refine g_callV (i := 100000 + 5) (As := []) (rest := [.int (iI (z.1))]) K (c_X8_count  (hYo.1) ) (cwV 0 hts gC_X6_121 rfl rfl rfl (by decide +kernel) ⟨Nat.le_of_ble_eq_true rfl, Nat.le_of_ble_eq_true rfl⟩) hK hW (kW_at rfl) rfl rfl hl.1 rfl (Nat.le_of_ble_eq_true rfl) dX6_settleBatch_9 ⟨by show (kTc (nE (sSets S I z.1.toNat)) - kTc (nE S)) + 0 ≤ kTc (nE (sSets S I (nP S))) - kTc (nE S); omega, by show (kTs (nE (sSets S I z.1.toNat)) - kTs (nE S)) + 0 ≤ kTs (nE (sSets S I (nP S))) - kTs (nE S); omega⟩ (fun v_ f_ H locs hp hW => ?_)
  obtain ⟨hpv, hpe⟩ := hp
  rw [hpe] at hW
  have hpv : v_ = some (.int (iI ((sSets S I z.1.toNat).1 8 0))) := hpv
  subst hpv
  refine xi_icmp_ge (tgt := 97) hx hb ⟨by omega, by omega⟩ ⟨by omega, by omega⟩ dX6_settleBatch_12 (by decide) (fun c_2 => ?_) (fun c_2 => ?_)
  · have hzk : z.1.toNat = nP S := by unfold nP; omega
    refine lv_iload_n hx hb dX6_settleBatch_97 rfl (lv_at hl 1 rfl) ?_
    exact W.widen (by omega) (by omega) (g_iret hx hb hr hW ⟨by rw [hzk], z.2, by rw [← hzk]; exact hb2, by rw [hzk]⟩ dX6_settleBatch_98 hlk)
  · refine lv_aload_n hx hb dX6_settleBatch_15 rfl (lv_at hl 2 rfl) ?_
    refine g_get (ref := RX6) (T := TX6) (N := 8) (ci := 7) hx hb hts wsC_X6 hown hK hW (100000 + 1) (kW_at rfl) rfl 2 (by decide) (hts _ lC_X6_28) (fun x h => h) (v := .ref (ad 5)) rfl dX6_settleBatch_16 ?_
    refine lv_iload_n hx hb dX6_settleBatch_19 rfl (lv_at hl 0 rfl) ?_
    refine g_callV (i := 100000 + 5) (As := [.int (iI (z.1))]) (rest := []) K (c_X8_find (z.1) (hYo.1) ⟨by omega, by omega⟩) (cwV 1 hts gC_X6_125 rfl rfl rfl (by decide +kernel) ⟨Nat.le_of_ble_eq_true rfl, Nat.le_of_ble_eq_true rfl⟩) hK hW (kW_at rfl) rfl rfl hl.1 rfl (Nat.le_of_ble_eq_true rfl) dX6_settleBatch_20 ⟨by show (kTc (nE (sSets S I z.1.toNat)) - kTc (nE S)) + 0 ≤ kTc (nE (sSets S I (nP S))) - kTc (nE S); omega, by show (kTs (nE (sSets S I z.1.toNat)) - kTs (nE S)) + 0 ≤ kTs (nE (sSets S I (nP S))) - kTs (nE S); omega⟩ (fun v_ f_ H locs hp hW => ?_)
    obtain ⟨hpv, hpe⟩ := hp
    rw [hpe] at hW
    have hpv : v_ = some (.ref (ad (1000 + 2 * (z.1).toNat))) := hpv.trans (by rw [kFind, if_pos (show 0 ≤ (z.1) ∧ (z.1) < (sSets S I z.1.toNat).1 8 0 by omega), pR_r _ (by omega)])
    subst hpv
    refine lv_astore_n (lv' := [(3, .ref (ad (1000 + 2 * (z.1).toNat))), (2, .int (iI (z.1))), (1, .int (iI (cnB I z.1.toNat))), (0, .ref (ad 1))]) hx hb dX6_settleBatch_23 rfl hl (by decide) rfl (fun ls hl => ?_)
    refine lv_aload_n hx hb dX6_settleBatch_24 rfl (lv_at hl 0 rfl) ?_
    refine lv_ifnull hx hb dX6_settleBatch_25 ?_
    refine lv_aload_n hx hb dX6_settleBatch_28 rfl (lv_at hl 3 rfl) ?_
    refine g_get (ref := RX6) (T := TX6) (N := 8) (ci := 7) hx hb hts wsC_X6 hown hK hW (100000 + 1) (kW_at rfl) rfl 7 (by decide) (hts _ lC_X6_54) (fun x h => h) (v := .ref (ad 7)) rfl dX6_settleBatch_29 ?_
    refine lv_aload_n hx hb dX6_settleBatch_32 rfl (lv_at hl 0 rfl) ?_
    refine g_callV (i := 100000 + 7) (As := [.ref (ad (1000 + 2 * (z.1).toNat))]) (rest := []) K (c_X2_has (S := (sSets S I z.1.toNat)) (z.1) hYo.1 (by omega) (show z.1 < (sSets S I z.1.toNat).1 8 0 by omega)) (cwV 1 hts gC_X6_181 rfl rfl rfl (by decide +kernel) ⟨Nat.le_of_ble_eq_true rfl, Nat.le_of_ble_eq_true rfl⟩) hK hW (kW_at rfl) rfl rfl hl.1 rfl (Nat.le_of_ble_eq_true rfl) dX6_settleBatch_33 ⟨by show (kTc (nE (sSets S I z.1.toNat)) - kTc (nE S)) + 0 ≤ kTc (nE (sSets S I (nP S))) - kTc (nE S); omega, by show (kTs (nE (sSets S I z.1.toNat)) - kTs (nE S)) + 0 ≤ kTs (nE (sSets S I (nP S))) - kTs (nE S); omega⟩ (fun v_ f_ H locs hp hW => ?_)
    obtain ⟨hpv, hpe⟩ := hp
    rw [hpe] at hW
    have hpv : v_ = some (.int (iI (bI (I z.1)))) := hpv
    subst hpv
    refine xi_ifb_eq (tgt := 91) hx hb dX6_settleBatch_36 (by decide) (fun c_3 => ?_) (fun c_3 => ?_)
    · refine xi_iinc (lv' := [(2, .int (iI (z.1 + 1))), (3, .ref (ad (1000 + 2 * (z.1).toNat))), (1, .int (iI (cnB I z.1.toNat))), (0, .ref (ad 1))]) hx hb dX6_settleBatch_91 hl (k := 1) rfl (by decide) rfl (fun ls hl => ?_)
      refine lv_goto (tgt := 4) hx hb dX6_settleBatch_94 (by decide) ?_
      have hSn : sSets S I (z.1 + 1).toNat = (sSets S I z.1.toNat) := by rw [show (z.1 + 1).toNat = z.1.toNat + 1 by omega, sSets_s, show ((z.1.toNat : Nat) : Int) = z.1 by omega, if_neg (by rw [c_3]; decide)]
      rw [← hSn] at hW
      have hcs : cnB I z.1.toNat = cnB I (z.1 + 1).toNat := by rw [show (z.1 + 1).toNat = z.1.toNat + 1 by omega, cnB_s, show ((z.1.toNat : Nat) : Int) = z.1 by omega, c_3]; show _ = _ + (0 : Int); omega
      rw [hcs] at hl
      refine w_cs (cells' := kTc (nE (sSets S I (z.1 + 1).toNat)) - kTc (nE S)) (slots' := kTs (nE (sSets S I (z.1 + 1).toNat)) - kTs (nE S)) (by rw [hSn]; rfl) (by rw [hSn]; rfl) ?_
      exact ih_lp_1 ((z.1 + 1), z.2) _ _ _ (by dsimp only; omega) ⟨⟨⟨by dsimp only; omega, by dsimp only; omega⟩, fun h0 => hb2 (by rw [← hSn]; exact h0)⟩, hW, lv_sub hl [0, 2, 3] rfl⟩
    · have hn4 : (sSets S I z.1.toNat).1 18 z.1 ≠ 4 := by rw [hY18 z.1 (by omega)]; exact hI z.1 (by omega) (by unfold nP; omega) c_3
      have hpos := cNF_pos (S := (sSets S I z.1.toNat)) (k := z.1) (by omega) (by omega) hn4
      have w10 := wf_10 hYo.1 z.1
      have hq44 := hYo.2.2.2 ((sSets S I z.1.toNat).1 10 z.1) w10.1 w10.2
      have h44 : (sSets S I z.1.toNat).1 44 ((sSets S I z.1.toNat).1 10 z.1) < 60 := by omega
      have w00 := wf_0 hYo.1 0
      have hcn : cnB I (z.1 + 1).toNat = cnB I z.1.toNat + 1 := by rw [show (z.1 + 1).toNat = z.1.toNat + 1 by omega, cnB_s, show ((z.1.toNat : Nat) : Int) = z.1 by omega, c_3]; rfl
      have hmo := cnB_mono I (show (z.1 + 1).toNat ≤ nP S by unfold nP; omega)
      have hnn := cnB_nn I z.1.toNat
      have hE1 : nE (sSets S I z.1.toNat) + 1 ≤ nE (sSets S I (nP S)) := by rw [hYn, hFn]; omega
      have hc1 := kTc_le hE1
      have hc2 := kTs_le hE1
      have hd1 : kTc (nE (sSets S I z.1.toNat) + 1) = kTc (nE (sSets S I z.1.toNat)) + (1 + kmc (nE (sSets S I z.1.toNat))) := rfl
      have hd2 : kTs (nE (sSets S I z.1.toNat) + 1) = kTs (nE (sSets S I z.1.toNat)) + (5 + kms (nE (sSets S I z.1.toNat))) := rfl
      have hcc1 : (kTc (nE (sSets S I z.1.toNat)) - kTc (nE S)) + (1 + kmc (nE (sSets S I z.1.toNat))) + 0 ≤ kTc (nE (sSets S I (nP S))) - kTc (nE S) := by omega
      have hcc2 : (kTs (nE (sSets S I z.1.toNat)) - kTs (nE S)) + (5 + kms (nE (sSets S I z.1.toNat))) + 0 ≤ kTs (nE (sSets S I (nP S))) - kTs (nE S) := by omega
      have hw1 : wf (pI (pI (sSets S I z.1.toNat) 18 z.1 4) 41 z.1 ((sSets S I z.1.toNat).1 0 0)) := wf_pI (wf_pI hYo.1 _ _ (by simp only [rLo, rHi]; omega)) _ _ (by simp only [rLo, rHi]; omega)
      have hwfp : wf (sPy (pI (pI (sSets S I z.1.toNat) 18 z.1 4) 41 z.1 ((sSets S I z.1.toNat).1 0 0)) z.1) := wf_book hw1 _ _ _ _ _ (show (sSets S I z.1.toNat).1 31 0 < 20000 from hYe)
      refine lv_aload_n hx hb dX6_settleBatch_39 rfl (lv_at hl 0 rfl) ?_
      refine xi_iconst hx hb dX6_settleBatch_40 ?_
      refine g_put (ref := RX7) (T := TX7) (N := 9) (ci := 8) (ty := tyX7 2) (v := .int (iI (4))) hx hb hts wsC_X7 tyX7 tyX7_ok nmX7 hown hK hW (100000 + (1000 + 2 * (z.1).toNat)) (kW_at (kC_pay (hYo.1) (by omega) (show (z.1) < (sSets S I z.1.toNat).1 8 0 from by omega))) rfl 2 (by decide) (hts _ lC_X6_115) (fun x h => h) rfl (by decide +kernel) rfl rfl (by simp [payF]) dX6_settleBatch_41 (fun H locs hW => ?_)
      rw [kW_pay (hYo.1) (by omega) (show (z.1) < (sSets S I z.1.toNat).1 8 0 from by omega) (f := 18) (x := 4) rfl (by simp [payF, pI])] at hW
      refine lv_aload_n hx hb dX6_settleBatch_44 rfl (lv_at hl 0 rfl) ?_
      refine lv_aload_n hx hb dX6_settleBatch_45 rfl (lv_at hl 3 rfl) ?_
      refine g_get (ref := RX6) (T := TX6) (N := 8) (ci := 7) hx hb hts wsC_X6 hown hK hW (100000 + 1) (kW_at rfl) rfl 0 (by decide) (hts _ lC_X6_12) (fun x h => h) (v := .ref (ad 2)) rfl dX6_settleBatch_46 ?_
      refine g_get (ref := RX4) (T := TX4) (N := 2) (ci := 5) hx hb hts wsC_X4 hown hK hW (100000 + 2) (kW_at rfl) rfl 0 (by decide) (hts _ lC_X6_68) (fun x h => h) (v := .int (iI ((sSets S I z.1.toNat).1 0 (0)))) rfl dX6_settleBatch_49 ?_
      have w_4 := wf_0 hYo.1 (0)
      refine g_put (ref := RX7) (T := TX7) (N := 9) (ci := 8) (ty := tyX7 6) (v := .int (iI ((sSets S I z.1.toNat).1 0 (0)))) hx hb hts wsC_X7 tyX7 tyX7_ok nmX7 hown hK hW (100000 + (1000 + 2 * (z.1).toNat)) (kW_at (kC_pay (wf_pI (f := 18) hYo.1 (z.1) (4) (by simp only [rLo, rHi]; omega)) (by omega) (show (z.1) < (sSets S I z.1.toNat).1 8 0 from by omega))) rfl 6 (by decide) (hts _ lC_X6_187) (fun x h => h) rfl (by decide +kernel) rfl rfl (by simp [payF]) dX6_settleBatch_52 (fun H locs hW => ?_)
      rw [kW_pay (wf_pI (f := 18) hYo.1 (z.1) (4) (by simp only [rLo, rHi]; omega)) (by omega) (show (z.1) < (sSets S I z.1.toNat).1 8 0 from by omega) (f := 41) (x := (sSets S I z.1.toNat).1 0 (0)) rfl (by simp [payF, pI])] at hW
      refine lv_aload_n hx hb dX6_settleBatch_55 rfl (lv_at hl 3 rfl) ?_
      refine g_get (ref := RX6) (T := TX6) (N := 8) (ci := 7) hx hb hts wsC_X6 hown hK hW (100000 + 1) (kW_at rfl) rfl 1 (by decide) (hts _ lC_X6_21) (fun x h => h) (v := .ref (ad 3)) rfl dX6_settleBatch_56 ?_
      refine lv_aload_n hx hb dX6_settleBatch_59 rfl (lv_at hl 0 rfl) ?_
      refine g_get (ref := RX7) (T := TX7) (N := 9) (ci := 8) hx hb hts wsC_X7 hown hK hW (100000 + (1000 + 2 * (z.1).toNat)) (kW_at (kC_pay (wf_pI (f := 41) (wf_pI (f := 18) hYo.1 (z.1) (4) (by simp only [rLo, rHi]; omega)) (z.1) ((sSets S I z.1.toNat).1 0 (0)) (by simp only [rLo, rHi]; omega)) (by omega) (show (z.1) < (sSets S I z.1.toNat).1 8 0 from by omega))) rfl 1 (by decide) (hts _ lC_X6_101) (fun x h => h) (v := .ref (ad (1001 + 2 * (z.1).toNat))) rfl dX6_settleBatch_60 ?_
      refine lv_aload_n hx hb dX6_settleBatch_63 rfl (lv_at hl 0 rfl) ?_
      refine g_get (ref := RX7) (T := TX7) (N := 9) (ci := 8) hx hb hts wsC_X7 hown hK hW (100000 + (1000 + 2 * (z.1).toNat)) (kW_at (kC_pay (wf_pI (f := 41) (wf_pI (f := 18) hYo.1 (z.1) (4) (by simp only [rLo, rHi]; omega)) (z.1) ((sSets S I z.1.toNat).1 0 (0)) (by simp only [rLo, rHi]; omega)) (by omega) (show (z.1) < (sSets S I z.1.toNat).1 8 0 from by omega))) rfl 0 (by decide) (hts _ lC_X6_80) (fun x h => h) (v := .int (iI (z.1))) rfl dX6_settleBatch_64 ?_
      refine g_callV (i := 100000 + 3) (As := [.ref (ad (1001 + 2 * (z.1).toNat)), .int (iI (z.1))]) (rest := []) K (c_X0_pay (S := (pI (pI (sSets S I z.1.toNat) 18 (z.1) (4)) 41 (z.1) ((sSets S I z.1.toNat).1 0 (0)))) (z.1) (wf_pI (f := 41) (wf_pI (f := 18) hYo.1 (z.1) (4) (by simp only [rLo, rHi]; omega)) (z.1) ((sSets S I z.1.toNat).1 0 (0)) (by simp only [rLo, rHi]; omega)) (by omega) (show z.1 < (sSets S I z.1.toNat).1 8 0 by omega) hG0 (show (sSets S I z.1.toNat).1 31 0 < 20000 from hYe) (show nE (sSets S I z.1.toNat) = 0 → z.2 10 = D.1 21 from hb2)) (cwV 2 hts gC_X6_190 rfl rfl rfl (by decide +kernel) ⟨Nat.le_of_ble_eq_true rfl, Nat.le_of_ble_eq_true rfl⟩) hK hW (kW_at rfl) rfl rfl hl.1 rfl (Nat.le_of_ble_eq_true rfl) dX6_settleBatch_67 ⟨by show (kTc (nE (sSets S I z.1.toNat)) - kTc (nE S)) + (1 + kmc (nE (sSets S I z.1.toNat))) ≤ kTc (nE (sSets S I (nP S))) - kTc (nE S); omega, by show (kTs (nE (sSets S I z.1.toNat)) - kTs (nE S)) + (5 + kms (nE (sSets S I z.1.toNat))) ≤ kTs (nE (sSets S I (nP S))) - kTs (nE S); omega⟩ (fun v_ f_ H locs hp hW => ?_)
      obtain ⟨hpv, q, q2, hpe⟩ := hp
      rw [hpe] at hW
      subst hpv
      refine lv_aload_n hx hb dX6_settleBatch_70 rfl (lv_at hl 3 rfl) ?_
      refine g_get (ref := RX6) (T := TX6) (N := 8) (ci := 7) hx hb hts wsC_X6 hown hK hW (100000 + 1) (kW_at rfl) rfl 3 (by decide) (hts _ lC_X6_35) (fun x h => h) (v := .ref (ad 6)) rfl dX6_settleBatch_71 ?_
      refine lv_aload_n hx hb dX6_settleBatch_74 rfl (lv_at hl 0 rfl) ?_
      refine g_get (ref := RX7) (T := TX7) (N := 9) (ci := 8) hx hb hts wsC_X7 hown hK hW (100000 + (1000 + 2 * (z.1).toNat)) (kW_at (kC_pay hwfp (by omega) (show (z.1) < (sPy (pI (pI (sSets S I z.1.toNat) 18 (z.1) (4)) 41 (z.1) ((sSets S I z.1.toNat).1 0 (0))) z.1).1 8 0 from (show z.1 < (sSets S I z.1.toNat).1 8 0 by omega)))) rfl 1 (by decide) (hts _ lC_X6_101) (fun x h => h) (v := .ref (ad (1001 + 2 * (z.1).toNat))) rfl dX6_settleBatch_75 ?_
      refine g_get (ref := RX10) (T := TX10) (N := 9) (ci := 11) hx hb hts wsC_X10 hown hK hW (100000 + (1001 + 2 * (z.1).toNat)) (kW_at (kC_trm hwfp (by omega) (show (z.1) < (sPy (pI (pI (sSets S I z.1.toNat) 18 (z.1) (4)) 41 (z.1) ((sSets S I z.1.toNat).1 0 (0))) z.1).1 8 0 from (show z.1 < (sSets S I z.1.toNat).1 8 0 by omega)))) rfl 1 (by decide) (hts _ lC_X6_85) (fun x h => h) (v := .int (iI ((sSets S I z.1.toNat).1 10 (z.1)))) rfl dX6_settleBatch_78 ?_
      have w_5 := wf_10 hYo.1 (z.1)
      refine lv_aload_n hx hb dX6_settleBatch_81 rfl (lv_at hl 0 rfl) ?_
      refine g_get (ref := RX7) (T := TX7) (N := 9) (ci := 8) hx hb hts wsC_X7 hown hK hW (100000 + (1000 + 2 * (z.1).toNat)) (kW_at (kC_pay hwfp (by omega) (show (z.1) < (sPy (pI (pI (sSets S I z.1.toNat) 18 (z.1) (4)) 41 (z.1) ((sSets S I z.1.toNat).1 0 (0))) z.1).1 8 0 from (show z.1 < (sSets S I z.1.toNat).1 8 0 by omega)))) rfl 0 (by decide) (hts _ lC_X6_80) (fun x h => h) (v := .int (iI (z.1))) rfl dX6_settleBatch_82 ?_
      refine g_callV (i := 100000 + 6) (As := [.int (iI ((sSets S I z.1.toNat).1 10 (z.1))), .int (iI (z.1))]) (rest := []) K (c_X1_tell (S := (sPy (pI (pI (sSets S I z.1.toNat) 18 (z.1) (4)) 41 (z.1) ((sSets S I z.1.toNat).1 0 (0))) z.1)) ((sSets S I z.1.toNat).1 10 z.1) (z.1) hwfp ⟨by omega, by omega⟩ ⟨by omega, by omega⟩ (show (sSets S I z.1.toNat).1 44 ((sSets S I z.1.toNat).1 10 z.1) < 60 from h44)) (cwV 2 hts gC_X6_194 rfl rfl rfl (by decide +kernel) ⟨Nat.le_of_ble_eq_true rfl, Nat.le_of_ble_eq_true rfl⟩) hK hW (kW_at rfl) rfl rfl hl.1 rfl (Nat.le_of_ble_eq_true rfl) dX6_settleBatch_85 ⟨hcc1, hcc2⟩ (fun v_ f_ H locs hp hW => ?_)
      obtain ⟨hpv, hpe⟩ := hp
      rw [hpe] at hW
      subst hpv
      have hW : gW D B0 s_ (kW cy ad (adK z.2 (nE (pI (pI (sSets S I z.1.toNat) 18 (z.1) (4)) 41 (z.1) ((sSets S I z.1.toNat).1 0 (0)))) q q2) (sTl (sSets S I z.1.toNat) z.1) (I, cX, qX) G) H locs := hW
      rw [kW_eqv (sTl_eq (sSets S I z.1.toNat) z.1)] at hW
      refine xi_iinc (lv' := [(1, .int (iI (cnB I z.1.toNat + 1))), (3, .ref (ad (1000 + 2 * (z.1).toNat))), (2, .int (iI (z.1))), (0, .ref (ad 1))]) hx hb dX6_settleBatch_88 hl (k := 2) rfl (by decide) rfl (fun ls hl => ?_)
      refine xi_iinc (lv' := [(2, .int (iI (z.1 + 1))), (1, .int (iI (cnB I z.1.toNat + 1))), (3, .ref (ad (1000 + 2 * (z.1).toNat))), (0, .ref (ad 1))]) hx hb dX6_settleBatch_91 hl (k := 2) rfl (by decide) rfl (fun ls hl => ?_)
      refine lv_goto (tgt := 4) hx hb dX6_settleBatch_94 (by decide) ?_
      have hSn : sSets S I (z.1 + 1).toNat = sFin (sSets S I z.1.toNat) z.1 := by rw [show (z.1 + 1).toNat = z.1.toNat + 1 by omega, sSets_s, show ((z.1.toNat : Nat) : Int) = z.1 by omega, if_pos c_3]
      have hEn : nE (sSets S I (z.1 + 1).toNat) = nE (sSets S I z.1.toNat) + 1 := by have h31 := wf_31 hYo.1 0; rw [hSn]; unfold nE; rw [sFin_31]; omega
      rw [← hSn] at hW
      have hcs : cnB I z.1.toNat + 1 = cnB I (z.1 + 1).toNat := hcn.symm
      rw [hcs] at hl
      refine w_cs (cells' := kTc (nE (sSets S I (z.1 + 1).toNat)) - kTc (nE S)) (slots' := kTs (nE (sSets S I (z.1 + 1).toNat)) - kTs (nE S)) (by show _ + (1 + kmc (nE (sSets S I z.1.toNat))) + 0 = _; rw [hEn]; omega) (by show _ + (5 + kms (nE (sSets S I z.1.toNat))) + 0 = _; rw [hEn]; omega) ?_
      exact ih_lp_1 ((z.1 + 1), (adK z.2 (nE (pI (pI (sSets S I z.1.toNat) 18 (z.1) (4)) 41 (z.1) ((sSets S I z.1.toNat).1 0 (0)))) q q2)) _ _ _ (by dsimp only; omega) ⟨⟨⟨by dsimp only; omega, by dsimp only; omega⟩, fun h0 => by dsimp only at h0; omega⟩, hW, lv_sub hl [0, 1, 3] rfl⟩
