theorem c_X6_settleMost_3 {l : Launch} {D : va_G} {cy : Nat → ClassId} {B0 : Nat} {ad bk : Nat → Nat} {S : ST} {I : Int → Bool} {cX qX : Int → Int64} {G : gF} (c : Int) (hwf : wf S) (hc : 0 ≤ c ∧ c ≤ 2) (ho : okS S) (he : S.1 31 0 + cNF S < 20000) (hG0 : G 50001 = none) (hE0 : nE S = 0 → bk 10 = D.1 21) : gM l yX6_settleMost vX6_settleMost 11 248 D cy B0 [.ref (ad 1), .int (iI (c)), .int (iI (3))] (kW cy ad bk S (I, cX, qX) G) (fun r g_ => ∃ (bk2 : Nat → Nat) (I2 : Int → Bool) (c2 q2 : Int → Int64), r = some (.int (iI (sMost S 3 c false).1)) ∧ (nE (sMost S 3 c false).2 = 0 → bk2 10 = D.1 21) ∧ g_ = kW cy ad bk2 (sMost S 3 c false).2 (I2, c2, q2) G) (kTc (nE (sMost S 3 c false).2) - kTc (nE S)) (kTs (nE (sMost S 3 c false).2) - kTs (nE S)) := by
  have h := c_X6_settleMost (l := l) (D := D) (cy := cy) (B0 := B0) (ad := ad) (bk := bk) (S := S) (I := I) (cX := cX) (qX := qX) (G := G) c 3 hwf hc (Or.inr rfl) ho he hG0 hE0
  rw [show decide ((3 : Int) = 2) = false from rfl] at h
  exact h
theorem c_X6_settleMost_2 {l : Launch} {D : va_G} {cy : Nat → ClassId} {B0 : Nat} {ad bk : Nat → Nat} {S : ST} {I : Int → Bool} {cX qX : Int → Int64} {G : gF} (c : Int) (hwf : wf S) (hc : 0 ≤ c ∧ c ≤ 2) (ho : okS S) (he : S.1 31 0 + cNF S < 20000) (hG0 : G 50001 = none) (hE0 : nE S = 0 → bk 10 = D.1 21) : gM l yX6_settleMost vX6_settleMost 11 248 D cy B0 [.ref (ad 1), .int (iI (c)), .int (iI (2))] (kW cy ad bk S (I, cX, qX) G) (fun r g_ => ∃ (bk2 : Nat → Nat) (I2 : Int → Bool) (c2 q2 : Int → Int64), r = some (.int (iI (sOff S c).1)) ∧ (nE (sOff S c).2 = 0 → bk2 10 = D.1 21) ∧ g_ = kW cy ad bk2 (sOff S c).2 (I2, c2, q2) G) (kTc (nE (sOff S c).2) - kTc (nE S)) (kTs (nE (sOff S c).2) - kTs (nE S)) := by
  have h := c_X6_settleMost (l := l) (D := D) (cy := cy) (B0 := B0) (ad := ad) (bk := bk) (S := S) (I := I) (cX := cX) (qX := qX) (G := G) c 2 hwf hc (Or.inl rfl) ho he hG0 hE0
  rw [show decide ((2 : Int) = 2) = true from rfl, sMost_off hwf hc] at h
  exact h
theorem nE_f {S T : ST} (h : T.1 31 = S.1 31) : nE T = nE S := by unfold nE; rw [h]
theorem ed2_31 {S : ST} : ∀ n : Nat, (foS ed2 S n).1 31 = S.1 31
  | 0 => rfl
  | n + 1 => by
    rw [foS_s]
    unfold ed2
    split
    · rw [sRet_f _ _ (by decide)]; exact ed2_31 n
    · exact ed2_31 n
theorem ed5_31 {S : ST} : ∀ n : Nat, (foS ed5 S n).1 31 = S.1 31
  | 0 => rfl
  | n + 1 => by
    rw [foS_s]
    unfold ed5
    split
    · unfold sEnter; rw [pI_f _ _ _ (by decide)]; exact ed5_31 n
    · exact ed5_31 n
theorem nE_ed2 (S : ST) : nE (sEd2 S) = nE S := nE_f (ed2_31 _)
theorem nE_ed5 (S : ST) : nE (sEd5 S) = nE S := nE_f (ed5_31 _)
theorem nE_ed4 (S : ST) : nE (sEd4 S) = nE S := nE_f (by unfold sEd4; rw [ed4_1, pI_f _ _ _ (by decide)])
theorem nE_endS (S : ST) : nE (sEndS S) = nE (sEd3 (sEd2 (sEd1 S).2)) := by
  unfold sEndS
  rw [nE_ed5, nE_ed4]
theorem ed1_nE {S : ST} (h : okS S) (hl : lg4 S) {m n : Nat} (hm : m ≤ n) : nE (foS ed1 (0, S) m).2 ≤ nE (foS ed1 (0, S) n).2 := by
  refine foS_mono (P := e1Ok S) (g := fun x => nE x.2) (fun k x hx => ⟨ed1_ok hx, ?_⟩) (e1Ok_0 h hl) hm
  have h1 := rdP_n h.1 (⟨hx.1, hx.2.1⟩ : rdP S x)
  have h2 := ed1_ok (c := k) hx
  have h3 := rdP_n h.1 (⟨h2.1, h2.2.1⟩ : rdP S (ed1 k x))
  have h4 : x.1 ≤ (ed1 k x).1 := by
    have hc := (sCut_ok hx.1.1 hx.2.2 k).1.2.1
    unfold ed1
    split
    · show x.1 ≤ x.1 + _; omega
    · show x.1 ≤ x.1 + 0; omega
  omega
set_option maxHeartbeats 4000000 in
set_option maxRecDepth 100000 in
theorem c_X6_closeDay {l : Launch} {D : va_G} {cy : Nat → ClassId} {B0 : Nat} {ad bk : Nat → Nat} {S : ST} {I : Int → Bool} {cX qX : Int → Int64} {G : gF}  (hwf : wf S) (ho : okS S) (hlg : lg4 S) (hlw : legW S) (hd : S.1 0 0 < 998) (hfd : fd41 (sEd2 (sEd1 S).2)) (hbal : balB (sEd2 (sEd1 S).2)) (he : S.1 31 0 + cNF S < 19900) (hG0 : G 50001 = none) (hE0 : nE S = 0 → bk 10 = D.1 21) : gM l yX6_closeDay vX6_closeDay 12 272 D cy B0 [.ref (ad 1)] (kW cy ad bk S (I, cX, qX) G) (fun r g_ => ∃ (bk2 : Nat → Nat) (I2 : Int → Bool) (c2 q2 : Int → Int64), r = some (.int (iI (sEd1 S).1)) ∧ (nE (sEndS S) = 0 → bk2 10 = D.1 21) ∧ g_ = kW cy ad bk2 (sEndS S) (I2, c2, q2) G) (kTc (nE (sEndS S)) - kTc (nE S)) (kTs (nE (sEndS S)) - kTs (nE S)) := by
  refine g_start (cc := cX6_closeDay) (maxL := 3) (ret := (some .int)) (by decide) rfl (Nat.le_of_ble_eq_true rfl) ?_
  intro p_ e_ s_ m_ be_ me_ co_ ls H locs K hr hlk hnm hK hW hl
  obtain ⟨hx, hb, hml, hown, hts⟩ := id K
  have hl : lv_has ls 3 [(0, .ref (ad 1))] := hl
  refine xi_iconst hx hb dX6_closeDay_0 ?_
  refine lv_istore_n (lv' := [(1, .int (iI (0))), (0, .ref (ad 1))]) hx hb dX6_closeDay_1 rfl hl (by decide) rfl (fun ls hl => ?_)
  refine xi_iconst hx hb dX6_closeDay_2 ?_
  refine lv_istore_n (lv' := [(2, .int (iI (0))), (1, .int (iI (0))), (0, .ref (ad 1))]) hx hb dX6_closeDay_3 rfl hl (by decide) rfl (fun ls hl => ?_)
  refine w_cs (cells' := kTc (nE ((0, S)).2) - kTc (nE S)) (slots' := kTs (nE ((0, S)).2) - kTs (nE S)) (Nat.sub_self _).symm (Nat.sub_self _).symm ?_
  refine lp_v6 (Wg := fun (c : Int) (y : Int × ST) (bk1 : Nat → Nat) (I1 : Int → Bool) (c1 : Int → Int64) (q1 : Int → Int64) (H : Heap) (locs : List Loc) (ls : Array Slot) => W p_ l e_ { frames := 12, cells := kTc (nE (sEndS S)) - kTc (nE S), slots := kTs (nE (sEndS S)) - kTs (nE S), locals := 272 } s_ m_ ([.ref (ad 1)] : List Value).toArray be_ me_ co_ H locs (kTc (nE (y).2) - kTc (nE S)) (kTs (nE (y).2) - kTs (nE S)) (MQ be_ (gQ D B0 (fun (r : Option Value) (g_ : gF) => ∃ (bk2 : Nat → Nat) (I2 : Int → Bool) (c2 q2 : Int → Int64), r = some (.int (iI (sEd1 S).1)) ∧ (nE (sEndS S) = 0 → bk2 10 = D.1 21) ∧ g_ = kW cy ad bk2 (sEndS S) (I2, c2, q2) G)) ([.ref (ad 1)] : List Value).toArray s_ (kTc (nE (sEndS S)) - kTc (nE S)) (kTs (nE (sEndS S)) - kTs (nE S)) (fun q : Nat => B0 ≤ q)) (F0 m_ 4 ls [])) (fun (c : Int) (y : Int × ST) (bk1 : Nat → Nat) (I1 : Int → Bool) (c1 : Int → Int64) (q1 : Int → Int64) (H : Heap) (locs : List Loc) (ls : Array Slot) => ((0 ≤ c ∧ c ≤ 3) ∧ y = foS ed1 (0, S) c.toNat ∧ (nE y.2 = 0 → bk1 10 = D.1 21)) ∧ gW D B0 s_ (kW cy ad bk1 y.2 (I1, c1, q1) G) H locs ∧ lv_has ls 3 [(2, .int (iI (c))), (1, .int (iI (y.1))), (0, .ref (ad 1))]) (fun (c : Int) (y : Int × ST) (bk1 : Nat → Nat) (I1 : Int → Bool) (c1 : Int → Int64) (q1 : Int → Int64) => (3 - c).toNat) (fun c y bk1 I1 c1 q1 H locs ls hI ih_lp_1 => ?_) (0) ((0, S)) (bk) (I) (cX) (qX) _ _ _ ⟨⟨⟨by decide, by decide⟩, rfl, hE0⟩, hW, lv_sub hl [0, 1, 2] rfl⟩
  obtain ⟨hI_lp_1, hW, hl⟩ := hI
  obtain ⟨hc, hy, hb1⟩ := hI_lp_1
  have hys := ed1_all ho hlg c.toNat
  rw [← hy] at hys
  have hyb := rdP_bd ho ⟨hys.1, hys.2.1⟩
  have hm1 : nE S ≤ nE y.2 := hyb.2.2.2.1
  refine lv_iload_n hx hb dX6_closeDay_4 rfl (lv_at hl 0 rfl) ?_
  refine xi_iconst hx hb dX6_closeDay_5 ?_
  refine xi_icmp_ge (tgt := 24) hx hb ⟨by omega, by omega⟩ ⟨by omega, by omega⟩ dX6_closeDay_6 (by decide) (fun c_2 => ?_) (fun c_2 => ?_)
  · have hyF : y = sEd1 S := by rw [hy, show c = 3 by omega]; rfl
    have hm5 : nE y.2 ≤ nE (sEndS S) := by rw [nE_endS, hyF]; exact Nat.le_trans (Nat.le_of_eq (nE_ed2 _).symm) (ed3_nE _ (m := 0) (n := 18) (by omega))
    have u1 := kTc_le hm1
    have u2 := kTc_le hm5
    have w1 := kTs_le hm1
    have w2 := kTs_le hm5
    refine lv_aload_n hx hb dX6_closeDay_24 rfl (lv_at hl 2 rfl) ?_
    refine g_callV (i := 100000 + 1) (As := []) (rest := []) K (c_X6_giveBackWhatMayNotStay (S := y.2) hys.1.1.1 hys.1.1 hys.2.2 (fun k k0 k1 => by have h8 : y.2.1 8 = S.1 8 := hys.1.2.2.2 8 (by unfold cht; decide); have h21 : y.2.1 21 = S.1 21 := hys.1.2.2.2 21 (by unfold cht; decide); rw [h8] at k1; rw [h21, h8]; rcases hlw k k0 k1 with q | q <;> omega)) (cwV 0 hts gC_X6_201 rfl rfl rfl (by decide +kernel) ⟨Nat.le_of_ble_eq_true rfl, Nat.le_of_ble_eq_true rfl⟩) hK hW (kW_at rfl) rfl rfl hl.1 rfl (Nat.le_of_ble_eq_true rfl) dX6_closeDay_25 ⟨by dsimp only; omega, by dsimp only; omega⟩ (fun v_ f_ H locs hp hW => ?_)
    obtain ⟨hpv, hpe⟩ := hp
    rw [hpe] at hW
    subst hpv
    have hTs := ed2_all hys.1.1 hys.2.2 (nP y.2) (Nat.le_refl _)
    obtain ⟨T, hT⟩ : ∃ x : ST, x = sEd2 y.2 := ⟨_, rfl⟩
    have hTs : e2Ok y.2 T := by rw [hT]; exact hTs
    rw [← hT] at hW
    rw [← hyF, ← hT] at hfd hbal
    have hT31 : T.1 31 0 = y.2.1 31 0 := by rw [hTs.2.2.2 31 (by decide)]
    have hTn : nE T = nE y.2 := nE_f (hTs.2.2.2 31 (by decide))
    have hzE : nE (sEndS S) = nE (sEd3 T) := by rw [nE_endS, ← hyF, ← hT]
    have hm6 : nE T ≤ nE (sEd3 T) := ed3_nE T (m := 0) (n := 18) (by omega)
    have u3 := kTc_le hm6
    have w3 := kTs_le hm6
    have e1 : kTc (nE (sEndS S)) = kTc (nE (sEd3 T)) := by rw [hzE]
    have e2 : kTs (nE (sEndS S)) = kTs (nE (sEd3 T)) := by rw [hzE]
    have e3 : kTc (nE T) = kTc (nE y.2) := by rw [hTn]
    have e4 : kTs (nE T) = kTs (nE y.2) := by rw [hTn]
    have hTc := hTs.2.2.1
    refine lv_aload_n hx hb dX6_closeDay_28 rfl (lv_at hl 2 rfl) ?_
    refine g_callV (i := 100000 + 1) (As := []) (rest := []) K (c_X6_chargeBanks (S := T) hTs.1.1 hTs.1 hfd hbal (by omega) hG0 (fun h => hb1 (by rw [← hTn]; exact h))) (cwV 0 hts gC_X6_204 rfl rfl rfl (by decide +kernel) ⟨Nat.le_of_ble_eq_true rfl, Nat.le_of_ble_eq_true rfl⟩) hK hW (kW_at rfl) rfl rfl hl.1 rfl (Nat.le_of_ble_eq_true rfl) dX6_closeDay_29 ⟨by dsimp only; omega, by dsimp only; omega⟩ (fun v_ f_ H locs hp hW => ?_)
    obtain ⟨hpv, bk5, hb5, hpe⟩ := hp
    rw [hpe] at hW
    subst hpv
    have hUs := ed3_all hTs.1 (by omega) 18 (Nat.le_refl _)
    obtain ⟨U, hU⟩ : ∃ x : ST, x = sEd3 T := ⟨_, rfl⟩
    have hUs : e3Ok T U ((18 : Nat) : Int) := by rw [hU]; exact hUs
    rw [← hU] at hW
    have hU0 : U.1 0 0 = S.1 0 0 := by rw [hUs.2.2.2.2 0 (by decide), hTs.2.2.2 0 (by decide), hys.1.2.2.2 0 (by unfold cht; decide)]
    have hU00 := wf_0 hUs.1.1 0
    refine lv_aload_n hx hb dX6_closeDay_32 rfl (lv_at hl 2 rfl) ?_
    refine g_get (ref := RX6) (T := TX6) (N := 8) (ci := 7) hx hb hts wsC_X6 hown hK hW (100000 + 1) (kW_at rfl) rfl 0 (by decide) (hts _ lC_X6_12) (fun x h => h) (v := .ref (ad 2)) rfl dX6_closeDay_33 ?_
    refine lv_dup hx hb dX6_closeDay_36 rfl ?_
    refine g_get (ref := RX4) (T := TX4) (N := 2) (ci := 5) hx hb hts wsC_X4 hown hK hW (100000 + 2) (kW_at rfl) rfl 0 (by decide) (hts _ lC_X6_68) (fun x h => h) (v := .int (iI (U.1 0 (0)))) rfl dX6_closeDay_37 ?_
    have w_3 := wf_0 hUs.1.1 (0)
    refine xi_iconst hx hb dX6_closeDay_40 ?_
    refine xi_iadd hx hb dX6_closeDay_41 ?_
    refine g_put (ref := RX4) (T := TX4) (N := 2) (ci := 5) (ty := .int) hx hb hts wsC_X4 tyX4 tyX4_ok nmX4 hown hK hW (100000 + 2) (kW_at rfl) rfl 0 (by decide) (hts _ lC_X6_68) (fun x h => h) rfl (by decide +kernel) rfl rfl (show 0 < 2 by decide) dX6_closeDay_42 (fun H locs hW => ?_)
    have hW := (kW_day (cy := cy) (ad := ad) (bk := bk5) (S := U) (X := (I1, c1, q1)) (G := G) (x := (U.1 0 (0)) + 1)) ▸ hW
    refine lv_aload_n hx hb dX6_closeDay_45 rfl (lv_at hl 2 rfl) ?_
    refine g_get (ref := RX6) (T := TX6) (N := 8) (ci := 7) hx hb hts wsC_X6 hown hK hW (100000 + 1) (kW_at rfl) rfl 1 (by decide) (hts _ lC_X6_21) (fun x h => h) (v := .ref (ad 3)) rfl dX6_closeDay_46 ?_
    refine g_callV (i := 100000 + 3) (As := []) (rest := []) K (c_X0_beginDay  (wf_pI (f := 0) hUs.1.1 (0) ((U.1 0 (0)) + 1) (by simp only [rLo, rHi]; omega)) ) (cwV 0 hts gC_X6_207 rfl rfl rfl (by decide +kernel) ⟨Nat.le_of_ble_eq_true rfl, Nat.le_of_ble_eq_true rfl⟩) hK hW (kW_at rfl) rfl rfl hl.1 rfl (Nat.le_of_ble_eq_true rfl) dX6_closeDay_49 ⟨by dsimp only; omega, by dsimp only; omega⟩ (fun v_ f_ H locs hp hW => ?_)
    obtain ⟨hpv, hpe⟩ := hp
    rw [hpe] at hW
    subst hpv
    obtain ⟨Y, hY⟩ : ∃ x : ST, x = sEd4 U := ⟨_, rfl⟩
    have hW : gW D B0 s_ (kW cy ad bk5 Y (I1, c1, q1) G) H locs := by rw [hY]; exact hW
    have hYo : okS Y := by rw [hY]; unfold sEd4; exact okS_1 (okS_pI hUs.1 (f := 0) 0 (U.1 0 0 + 1) (by decide) (by simp only [rLo, rHi]; omega)) (ed4_1 _ _)
    refine lv_aload_n hx hb dX6_closeDay_52 rfl (lv_at hl 2 rfl) ?_
    refine g_callV (i := 100000 + 1) (As := []) (rest := []) K (c_X6_letWaitingEnter  (hYo.1) hYo) (cwV 0 hts gC_X6_210 rfl rfl rfl (by decide +kernel) ⟨Nat.le_of_ble_eq_true rfl, Nat.le_of_ble_eq_true rfl⟩) hK hW (kW_at rfl) rfl rfl hl.1 rfl (Nat.le_of_ble_eq_true rfl) dX6_closeDay_53 ⟨by dsimp only; omega, by dsimp only; omega⟩ (fun v_ f_ H locs hp hW => ?_)
    obtain ⟨hpv, hpe⟩ := hp
    rw [hpe] at hW
    subst hpv
    have hz : sEd5 Y = sEndS S := by rw [hY, hU, hT, hyF]; rfl
    rw [hz] at hW
    refine lv_iload_n hx hb dX6_closeDay_56 rfl (lv_at hl 1 rfl) ?_
    exact W.widen (by omega) (by omega) (g_iret hx hb hr hW ⟨bk5, I1, c1, q1, by rw [hyF], fun h => hb5 (by rw [← hU, ← nE_ed4, ← nE_ed5, ← hY, hz]; exact h), rfl⟩ dX6_closeDay_57 hlk)
  · have hed0 : ed1 c y = (y.1 + (sMost y.2 3 c false).1, (sMost y.2 3 c false).2) := sMost_ed1 (n := y.1) hys.1.1.1 ⟨by omega, by omega⟩ hys.2.2
    have hed : (ed1 c y).1 = y.1 + ((sMost y.2 3 c false).1) := by rw [hed0]
    have hed2 : (ed1 c y).2 = (sMost y.2 3 c false).2 := by rw [hed0]
    have hmm : ed1 c y = foS ed1 (0, S) (c + 1).toNat := by rw [show (c + 1).toNat = c.toNat + 1 by omega, foS_s, show ((c.toNat : Nat) : Int) = c by omega, ← hy]
    have hm2 := ed1_nE ho hlg (m := c.toNat) (n := (c + 1).toNat) (by omega)
    rw [← hy, ← hmm] at hm2
    have hm3 := ed1_nE ho hlg (m := (c + 1).toNat) (n := 3) (by omega)
    rw [← hmm] at hm3
    have hm4 : nE (foS ed1 (0, S) 3).2 ≤ nE (sEndS S) := by rw [nE_endS]; exact Nat.le_trans (Nat.le_of_eq (nE_ed2 _).symm) (ed3_nE _ (m := 0) (n := 18) (by omega))
    rw [hed2] at hm2 hm3
    have u1 := kTc_le hm1
    have u2 := kTc_le hm2
    have u3 := kTc_le hm3
    have u4 := kTc_le hm4
    have w1 := kTs_le hm1
    have w2 := kTs_le hm2
    have w3 := kTs_le hm3
    have w4 := kTs_le hm4
    have heq1 : kTc (nE (ed1 c y).2) = kTc (nE (sMost y.2 3 c false).2) := by rw [hed2]
    have heq2 : kTs (nE (ed1 c y).2) = kTs (nE (sMost y.2 3 c false).2) := by rw [hed2]
    refine lv_iload_n hx hb dX6_closeDay_9 rfl (lv_at hl 1 rfl) ?_
    refine lv_aload_n hx hb dX6_closeDay_10 rfl (lv_at hl 2 rfl) ?_
    refine lv_iload_n hx hb dX6_closeDay_11 rfl (lv_at hl 0 rfl) ?_
    refine xi_iconst hx hb dX6_closeDay_12 ?_
    refine g_callV (i := 100000 + 1) (As := [.int (iI (c)), .int (iI (3))]) (rest := [.int (iI (y.1))]) K (c_X6_settleMost_3 (S := y.2) (c) hys.1.1.1 ⟨by omega, by omega⟩ hys.1.1 (by omega) hG0 hb1) (cwV 2 hts gC_X6_198 rfl rfl rfl (by decide +kernel) ⟨Nat.le_of_ble_eq_true rfl, Nat.le_of_ble_eq_true rfl⟩) hK hW (kW_at rfl) rfl rfl hl.1 rfl (Nat.le_of_ble_eq_true rfl) dX6_closeDay_13 ⟨by dsimp only; omega, by dsimp only; omega⟩ (fun v_ f_ H locs hp hW => ?_)
    obtain ⟨bk4, I4, c4, q4, hpv, hb4, hpe⟩ := hp
    rw [hpe] at hW
    subst hpv
    refine xi_iadd hx hb dX6_closeDay_16 ?_
    refine lv_istore_n (lv' := [(1, .int (iI (y.1 + ((sMost y.2 3 c false).1)))), (2, .int (iI (c))), (0, .ref (ad 1))]) hx hb dX6_closeDay_17 rfl hl (by decide) rfl (fun ls hl => ?_)
    refine xi_iinc (lv' := [(2, .int (iI (c + 1))), (1, .int (iI (y.1 + ((sMost y.2 3 c false).1)))), (0, .ref (ad 1))]) hx hb dX6_closeDay_18 hl (k := 1) rfl (by decide) rfl (fun ls hl => ?_)
    refine lv_goto (tgt := 4) hx hb dX6_closeDay_21 (by decide) ?_
    have hl : lv_has ls 3 [(2, .int (iI (c + 1))), (1, .int (iI ((ed1 c y).1))), (0, .ref (ad 1))] := by rw [hed]; exact lv_sub hl [0, 1, 2] rfl
    rw [← hed2] at hW
    rw [← hed2] at hb4
    skip
    refine w_cs (cells' := kTc (nE (ed1 c y).2) - kTc (nE S)) (slots' := kTs (nE (ed1 c y).2) - kTs (nE S)) (by omega) (by omega) ?_
    exact ih_lp_1 (c + 1) (ed1 c y) (bk4) (I4) (c4) (q4) _ _ _ (by first | omega | (dsimp only; omega)) ⟨⟨⟨by omega, by omega⟩, by rw [show (c + 1).toNat = c.toNat + 1 by omega, foS_s, show ((c.toNat : Nat) : Int) = c by omega, ← hy], hb4⟩, hW, lv_sub hl [0, 1, 2] rfl⟩
