theorem hold_all {S : ST} (ho : okS S) (nm : Int) : ∀ n : Nat, n ≤ 60 → okS (foS (lsB nm true) (0, S) n).2 ∧ cNF (foS (lsB nm true) (0, S) n).2 = cNF S ∧ 0 ≤ (foS (lsB nm true) (0, S) n).1 ∧ (foS (lsB nm true) (0, S) n).1 ≤ n ∧ ∀ f : Nat, f ≠ 18 → (foS (lsB nm true) (0, S) n).2.1 f = S.1 f
  | 0, _ => ⟨ho, rfl, Int.le_refl 0, Int.le_refl 0, fun _ _ => rfl⟩
  | n + 1, hn => by
    have ih := hold_all ho nm n (by omega)
    have r := lsB_ok (S := S) (nm := nm) (is := true) (x := foS (lsB nm true) (0, S) n) (k := n) (by omega) (by omega) ih
    rw [foS_s]
    exact ⟨r.1, r.2.1, r.2.2.1, by have := r.2.2.2.1; omega, r.2.2.2.2⟩
set_option maxHeartbeats 4000000 in
set_option maxRecDepth 100000 in
theorem c_X6_holdPaymentsFor {l : Launch} {D : va_G} {cy : Nat → ClassId} {B0 : Nat} {ad bk : Nat → Nat} {S : ST} {I : Int → Bool} {cX qX : Int → Int64} {G : gF} (nm : Int) (hwf : wf S) (hnm : 0 ≤ nm ∧ nm ≤ 19) (ho : okS S) : gM l yX6_holdPaymentsFor vX6_holdPaymentsFor 5 109 D cy B0 [.ref (ad 1), .int (iI (nm))] (kW cy ad bk S (I, cX, qX) G) (fun r g_ => r = some (.int (iI (foS (lsB nm true) (0, S) (nP S)).1)) ∧ g_ = kW cy ad bk (foS (lsB nm true) (0, S) (nP S)).2 (I, cX, qX) G) 0 0 := by
  refine g_start (cc := cX6_holdPaymentsFor) (maxL := 5) (ret := (some .int)) (by decide) rfl (Nat.le_of_ble_eq_true rfl) ?_
  intro p_ e_ s_ m_ be_ me_ co_ ls H locs K hr hlk hnm hK hW hl
  obtain ⟨hx, hb, hml, hown, hts⟩ := id K
  have hl : lv_has ls 5 [(0, .ref (ad 1)), (1, .int (iI (nm)))] := hl
  have h80 := wf_8 hwf 0
  refine xi_iconst hx hb dX6_holdPaymentsFor_0 ?_
  refine lv_istore_n (lv' := [(2, .int (iI (0))), (0, .ref (ad 1)), (1, .int (iI (nm)))]) hx hb dX6_holdPaymentsFor_1 rfl hl (by decide) rfl (fun ls hl => ?_)
  refine xi_iconst hx hb dX6_holdPaymentsFor_2 ?_
  refine lv_istore_n (lv' := [(3, .int (iI (0))), (2, .int (iI (0))), (0, .ref (ad 1)), (1, .int (iI (nm)))]) hx hb dX6_holdPaymentsFor_3 rfl hl (by decide) rfl (fun ls hl => ?_)
  refine lp_w2 (Wg := fun (H : Heap) (locs : List Loc) (ls : Array Slot) => W p_ l e_ { frames := 5, cells := 0, slots := 0, locals := 109 } s_ m_ ([.ref (ad 1), .int (iI (nm))] : List Value).toArray be_ me_ co_ H locs 0 0 (MQ be_ (gQ D B0 (fun (r : Option Value) (g_ : gF) => r = some (.int (iI (foS (lsB nm true) (0, S) (nP S)).1)) ∧ g_ = kW cy ad bk (foS (lsB nm true) (0, S) (nP S)).2 (I, cX, qX) G)) ([.ref (ad 1), .int (iI (nm))] : List Value).toArray s_ 0 0 (fun q : Nat => B0 ≤ q)) (F0 m_ 4 ls [])) (fun (k : Int) (y : Int × ST) (H : Heap) (locs : List Loc) (ls : Array Slot) => ((0 ≤ k ∧ k ≤ S.1 8 0) ∧ y = foS (lsB nm true) (0, S) k.toNat) ∧ gW D B0 s_ (kW cy ad bk y.2 (I, cX, qX) G) H locs ∧ lv_has ls 5 [(3, .int (iI (k))), (2, .int (iI (y.1))), (1, .int (iI (nm))), (0, .ref (ad 1))]) (fun (k : Int) (y : Int × ST) => (60 - k).toNat) (fun k y H locs ls hI ih_lp_1 => ?_) (0) ((0, S)) _ _ _ ⟨⟨⟨by decide, by omega⟩, rfl⟩, hW, lv_sub hl [0, 1, 3, 2] rfl⟩
  obtain ⟨hI_lp_1, hW, hl⟩ := hI
  obtain ⟨hk, hy⟩ := hI_lp_1
  have hys := hold_all ho nm k.toNat (by omega)
  rw [← hy] at hys
  have hy8 : y.2.1 8 0 = S.1 8 0 := by rw [hys.2.2.2.2 8 (by decide)]
  refine lv_iload_n hx hb dX6_holdPaymentsFor_4 rfl (lv_at hl 0 rfl) ?_
  refine lv_aload_n hx hb dX6_holdPaymentsFor_5 rfl (lv_at hl 3 rfl) ?_
  refine g_get (ref := RX6) (T := TX6) (N := 8) (ci := 7) hx hb hts wsC_X6 hown hK hW (100000 + 1) (kW_at rfl) rfl 2 (by decide) (hts _ lC_X6_28) (fun x h => h) (v := .ref (ad 5)) rfl dX6_holdPaymentsFor_6 ?_
  refine g_callV (i := 100000 + 5) (As := []) (rest := [.int (iI (k))]) K (c_X8_count  (hys.1.1) ) (cwV 0 hts gC_X6_121 rfl rfl rfl (by decide +kernel) ⟨Nat.le_of_ble_eq_true rfl, Nat.le_of_ble_eq_true rfl⟩) hK hW (kW_at rfl) rfl rfl hl.1 rfl (Nat.le_of_ble_eq_true rfl) dX6_holdPaymentsFor_9 ⟨Nat.le_refl _, Nat.le_refl _⟩ (fun v_ f_ H locs hp hW => ?_)
  obtain ⟨hpv, hpe⟩ := hp
  rw [hpe] at hW
  have hpv : v_ = some (.int (iI ((y.2).1 8 0))) := hpv
  subst hpv
  refine xi_icmp_ge (tgt := 83) hx hb ⟨by omega, by omega⟩ ⟨by omega, by omega⟩ dX6_holdPaymentsFor_12 (by decide) (fun c_2 => ?_) (fun c_2 => ?_)
  · refine lv_iload_n hx hb dX6_holdPaymentsFor_83 rfl (lv_at hl 1 rfl) ?_
    exact g_iret hx hb hr hW ⟨by rw [hy, show k.toNat = nP S by unfold nP; omega], by rw [hy, show k.toNat = nP S by unfold nP; omega]⟩ dX6_holdPaymentsFor_84 hlk
  · refine lv_aload_n hx hb dX6_holdPaymentsFor_15 rfl (lv_at hl 3 rfl) ?_
    refine g_get (ref := RX6) (T := TX6) (N := 8) (ci := 7) hx hb hts wsC_X6 hown hK hW (100000 + 1) (kW_at rfl) rfl 2 (by decide) (hts _ lC_X6_28) (fun x h => h) (v := .ref (ad 5)) rfl dX6_holdPaymentsFor_16 ?_
    refine lv_iload_n hx hb dX6_holdPaymentsFor_19 rfl (lv_at hl 0 rfl) ?_
    refine g_callV (i := 100000 + 5) (As := [.int (iI (k))]) (rest := []) K (c_X8_find (k) (hys.1.1) ⟨by omega, by omega⟩) (cwV 1 hts gC_X6_125 rfl rfl rfl (by decide +kernel) ⟨Nat.le_of_ble_eq_true rfl, Nat.le_of_ble_eq_true rfl⟩) hK hW (kW_at rfl) rfl rfl hl.1 rfl (Nat.le_of_ble_eq_true rfl) dX6_holdPaymentsFor_20 ⟨Nat.le_refl _, Nat.le_refl _⟩ (fun v_ f_ H locs hp hW => ?_)
    obtain ⟨hpv, hpe⟩ := hp
    rw [hpe] at hW
    have hpv : v_ = some (.ref (ad (1000 + 2 * (k).toNat))) := hpv.trans (by rw [kFind, if_pos (show 0 ≤ (k) ∧ (k) < (y.2).1 8 0 by omega), pR_r _ (by omega)])
    subst hpv
    refine lv_astore (lv' := [(4, .ref (ad (1000 + 2 * (k).toNat))), (3, .int (iI (k))), (2, .int (iI (y.1))), (1, .int (iI (nm))), (0, .ref (ad 1))]) hx hb dX6_holdPaymentsFor_23 hl (by decide) rfl (fun ls hl => ?_)
    refine lv_aload hx hb dX6_holdPaymentsFor_25 (lv_at hl 0 rfl) ?_
    refine lv_ifnull hx hb dX6_holdPaymentsFor_27 ?_
    refine lv_aload hx hb dX6_holdPaymentsFor_30 (lv_at hl 0 rfl) ?_
    refine g_get (ref := RX7) (T := TX7) (N := 9) (ci := 8) hx hb hts wsC_X7 hown hK hW (100000 + (1000 + 2 * (k).toNat)) (kW_at (kC_pay (hys.1.1) (by omega) (show (k) < (y.2).1 8 0 from by omega))) rfl 1 (by decide) (hts _ lC_X6_101) (fun x h => h) (v := .ref (ad (1001 + 2 * (k).toNat))) rfl dX6_holdPaymentsFor_32 ?_
    refine g_get (ref := RX10) (T := TX10) (N := 9) (ci := 11) hx hb hts wsC_X10 hown hK hW (100000 + (1001 + 2 * (k).toNat)) (kW_at (kC_trm (hys.1.1) (by omega) (show (k) < (y.2).1 8 0 from by omega))) rfl 4 (by decide) (hts _ lC_X6_105) (fun x h => h) (v := .int (iI ((y.2).1 13 (k)))) rfl dX6_holdPaymentsFor_35 ?_
    have w_3 := wf_13 hys.1.1 (k)
    refine lv_iload_n hx hb dX6_holdPaymentsFor_38 rfl (lv_at hl 3 rfl) ?_
    refine xi_icmp_ne (tgt := 77) hx hb ⟨by omega, by omega⟩ ⟨by omega, by omega⟩ dX6_holdPaymentsFor_39 (by decide) (fun c_4 => ?_) (fun c_4 => ?_)
    · refine xi_iinc (lv' := [(3, .int (iI (k + 1))), (4, .ref (ad (1000 + 2 * (k).toNat))), (2, .int (iI (y.1))), (1, .int (iI (nm))), (0, .ref (ad 1))]) hx hb dX6_holdPaymentsFor_77 hl (k := 1) rfl (by decide) rfl (fun ls hl => ?_)
      refine lv_goto (tgt := 4) hx hb dX6_holdPaymentsFor_80 (by decide) ?_
      have hlc : lsC y.2 nm true k = false := by simp only [lsC, c_4, decide_true, decide_false, Bool.true_and, Bool.and_true, Bool.false_and, Bool.and_false, Bool.true_or, Bool.or_true, Bool.false_or, Bool.or_false, Bool.not_true, Bool.not_false, eq_self]
      have hls : lsB nm true k y = (y.1, y.2) := by rw [lsB, hlc]; rfl
      have hW : gW D B0 s_ (kW cy ad bk (lsB nm true k y).2 (I, cX, qX) G) H locs := by rw [hls]; exact hW
      have hl : lv_has ls 5 [(3, .int (iI (k + 1))), (2, .int (iI ((lsB nm true k y).1))), (1, .int (iI nm)), (0, .ref (ad 1))] := by rw [hls]; exact lv_sub hl [0, 2, 3, 4] rfl
      exact ih_lp_1 (k + 1) (lsB nm true k y) _ _ _ (by first | omega | (dsimp only; omega)) ⟨⟨⟨by omega, by omega⟩, by rw [show (k + 1).toNat = k.toNat + 1 by omega, foS_s, show ((k.toNat : Nat) : Int) = k by omega, ← hy]⟩, hW, lv_sub hl [0, 1, 2, 3] rfl⟩
    · refine lv_aload hx hb dX6_holdPaymentsFor_42 (lv_at hl 0 rfl) ?_
      refine g_get (ref := RX7) (T := TX7) (N := 9) (ci := 8) hx hb hts wsC_X7 hown hK hW (100000 + (1000 + 2 * (k).toNat)) (kW_at (kC_pay (hys.1.1) (by omega) (show (k) < (y.2).1 8 0 from by omega))) rfl 5 (by decide) (hts _ lC_X6_111) (fun x h => h) (v := .int (iI ((y.2).1 19 (k)))) rfl dX6_holdPaymentsFor_44 ?_
      have w_5 := wf_19 hys.1.1 (k)
      refine xi_if_ne (tgt := 77) hx hb ⟨by omega, by omega⟩ dX6_holdPaymentsFor_47 (by decide) (fun c_6 => ?_) (fun c_6 => ?_)
      · refine xi_iinc (lv' := [(3, .int (iI (k + 1))), (4, .ref (ad (1000 + 2 * (k).toNat))), (2, .int (iI (y.1))), (1, .int (iI (nm))), (0, .ref (ad 1))]) hx hb dX6_holdPaymentsFor_77 hl (k := 1) rfl (by decide) rfl (fun ls hl => ?_)
        refine lv_goto (tgt := 4) hx hb dX6_holdPaymentsFor_80 (by decide) ?_
        have hlc : lsC y.2 nm true k = false := by simp only [lsC, c_4, c_6, decide_true, decide_false, Bool.true_and, Bool.and_true, Bool.false_and, Bool.and_false, Bool.true_or, Bool.or_true, Bool.false_or, Bool.or_false, Bool.not_true, Bool.not_false, eq_self]
        have hls : lsB nm true k y = (y.1, y.2) := by rw [lsB, hlc]; rfl
        have hW : gW D B0 s_ (kW cy ad bk (lsB nm true k y).2 (I, cX, qX) G) H locs := by rw [hls]; exact hW
        have hl : lv_has ls 5 [(3, .int (iI (k + 1))), (2, .int (iI ((lsB nm true k y).1))), (1, .int (iI nm)), (0, .ref (ad 1))] := by rw [hls]; exact lv_sub hl [0, 2, 3, 4] rfl
        exact ih_lp_1 (k + 1) (lsB nm true k y) _ _ _ (by first | omega | (dsimp only; omega)) ⟨⟨⟨by omega, by omega⟩, by rw [show (k + 1).toNat = k.toNat + 1 by omega, foS_s, show ((k.toNat : Nat) : Int) = k by omega, ← hy]⟩, hW, lv_sub hl [0, 1, 2, 3] rfl⟩
      · refine lv_aload hx hb dX6_holdPaymentsFor_50 (lv_at hl 0 rfl) ?_
        refine g_get (ref := RX7) (T := TX7) (N := 9) (ci := 8) hx hb hts wsC_X7 hown hK hW (100000 + (1000 + 2 * (k).toNat)) (kW_at (kC_pay (hys.1.1) (by omega) (show (k) < (y.2).1 8 0 from by omega))) rfl 2 (by decide) (hts _ lC_X6_115) (fun x h => h) (v := .int (iI ((y.2).1 18 (k)))) rfl dX6_holdPaymentsFor_52 ?_
        have w_7 := wf_18 hys.1.1 (k)
        refine xi_iconst hx hb dX6_holdPaymentsFor_55 ?_
        refine xi_icmp_eq (tgt := 68) hx hb ⟨by omega, by omega⟩ ⟨by omega, by omega⟩ dX6_holdPaymentsFor_56 (by decide) (fun c_8 => ?_) (fun c_8 => ?_)
        · refine lv_aload hx hb dX6_holdPaymentsFor_68 (lv_at hl 0 rfl) ?_
          refine xi_iconst hx hb dX6_holdPaymentsFor_70 ?_
          refine g_put (ref := RX7) (T := TX7) (N := 9) (ci := 8) (ty := tyX7 2) (v := .int (iI (1))) hx hb hts wsC_X7 tyX7 tyX7_ok nmX7 hown hK hW (100000 + (1000 + 2 * (k).toNat)) (kW_at (kC_pay (hys.1.1) (by omega) (show (k) < (y.2).1 8 0 from by omega))) rfl 2 (by decide) (hts _ lC_X6_115) (fun x h => h) rfl (by decide +kernel) rfl rfl (by simp [payF]) dX6_holdPaymentsFor_71 (fun H locs hW => ?_)
          rw [kW_pay (hys.1.1) (by omega) (show (k) < (y.2).1 8 0 from by omega) (f := 18) (x := 1) rfl (by simp [payF, pI])] at hW
          refine xi_iinc (lv' := [(2, .int (iI (y.1 + 1))), (4, .ref (ad (1000 + 2 * (k).toNat))), (3, .int (iI (k))), (1, .int (iI (nm))), (0, .ref (ad 1))]) hx hb dX6_holdPaymentsFor_74 hl (k := 2) rfl (by decide) rfl (fun ls hl => ?_)
          refine xi_iinc (lv' := [(3, .int (iI (k + 1))), (2, .int (iI (y.1 + 1))), (4, .ref (ad (1000 + 2 * (k).toNat))), (1, .int (iI (nm))), (0, .ref (ad 1))]) hx hb dX6_holdPaymentsFor_77 hl (k := 2) rfl (by decide) rfl (fun ls hl => ?_)
          refine lv_goto (tgt := 4) hx hb dX6_holdPaymentsFor_80 (by decide) ?_
          have hlc : lsC y.2 nm true k = true := by simp only [lsC, c_4, c_6, c_8, decide_true, decide_false, Bool.true_and, Bool.and_true, Bool.false_and, Bool.and_false, Bool.true_or, Bool.or_true, Bool.false_or, Bool.or_false, Bool.not_true, Bool.not_false, eq_self]
          have hls : lsB nm true k y = (y.1 + 1, pI y.2 18 k 1) := by rw [lsB, hlc]; rfl
          have hW : gW D B0 s_ (kW cy ad bk (lsB nm true k y).2 (I, cX, qX) G) H locs := by rw [hls]; exact hW
          have hl : lv_has ls 5 [(3, .int (iI (k + 1))), (2, .int (iI ((lsB nm true k y).1))), (1, .int (iI nm)), (0, .ref (ad 1))] := by rw [hls]; exact lv_sub hl [0, 1, 3, 4] rfl
          exact ih_lp_1 (k + 1) (lsB nm true k y) _ _ _ (by first | omega | (dsimp only; omega)) ⟨⟨⟨by omega, by omega⟩, by rw [show (k + 1).toNat = k.toNat + 1 by omega, foS_s, show ((k.toNat : Nat) : Int) = k by omega, ← hy]⟩, hW, lv_sub hl [0, 1, 2, 3] rfl⟩
        · refine lv_aload hx hb dX6_holdPaymentsFor_59 (lv_at hl 0 rfl) ?_
          refine g_get (ref := RX7) (T := TX7) (N := 9) (ci := 8) hx hb hts wsC_X7 hown hK hW (100000 + (1000 + 2 * (k).toNat)) (kW_at (kC_pay (hys.1.1) (by omega) (show (k) < (y.2).1 8 0 from by omega))) rfl 2 (by decide) (hts _ lC_X6_115) (fun x h => h) (v := .int (iI ((y.2).1 18 (k)))) rfl dX6_holdPaymentsFor_61 ?_
          have w_9 := wf_18 hys.1.1 (k)
          refine xi_iconst hx hb dX6_holdPaymentsFor_64 ?_
          refine xi_icmp_ne (tgt := 77) hx hb ⟨by omega, by omega⟩ ⟨by omega, by omega⟩ dX6_holdPaymentsFor_65 (by decide) (fun c_10 => ?_) (fun c_10 => ?_)
          · refine xi_iinc (lv' := [(3, .int (iI (k + 1))), (4, .ref (ad (1000 + 2 * (k).toNat))), (2, .int (iI (y.1))), (1, .int (iI (nm))), (0, .ref (ad 1))]) hx hb dX6_holdPaymentsFor_77 hl (k := 1) rfl (by decide) rfl (fun ls hl => ?_)
            refine lv_goto (tgt := 4) hx hb dX6_holdPaymentsFor_80 (by decide) ?_
            have hlc : lsC y.2 nm true k = false := by simp only [lsC, c_4, c_6, c_8, c_10, decide_true, decide_false, Bool.true_and, Bool.and_true, Bool.false_and, Bool.and_false, Bool.true_or, Bool.or_true, Bool.false_or, Bool.or_false, Bool.not_true, Bool.not_false, eq_self]
            have hls : lsB nm true k y = (y.1, y.2) := by rw [lsB, hlc]; rfl
            have hW : gW D B0 s_ (kW cy ad bk (lsB nm true k y).2 (I, cX, qX) G) H locs := by rw [hls]; exact hW
            have hl : lv_has ls 5 [(3, .int (iI (k + 1))), (2, .int (iI ((lsB nm true k y).1))), (1, .int (iI nm)), (0, .ref (ad 1))] := by rw [hls]; exact lv_sub hl [0, 2, 3, 4] rfl
            exact ih_lp_1 (k + 1) (lsB nm true k y) _ _ _ (by first | omega | (dsimp only; omega)) ⟨⟨⟨by omega, by omega⟩, by rw [show (k + 1).toNat = k.toNat + 1 by omega, foS_s, show ((k.toNat : Nat) : Int) = k by omega, ← hy]⟩, hW, lv_sub hl [0, 1, 2, 3] rfl⟩
          · refine lv_aload hx hb dX6_holdPaymentsFor_68 (lv_at hl 0 rfl) ?_
            refine xi_iconst hx hb dX6_holdPaymentsFor_70 ?_
            refine g_put (ref := RX7) (T := TX7) (N := 9) (ci := 8) (ty := tyX7 2) (v := .int (iI (1))) hx hb hts wsC_X7 tyX7 tyX7_ok nmX7 hown hK hW (100000 + (1000 + 2 * (k).toNat)) (kW_at (kC_pay (hys.1.1) (by omega) (show (k) < (y.2).1 8 0 from by omega))) rfl 2 (by decide) (hts _ lC_X6_115) (fun x h => h) rfl (by decide +kernel) rfl rfl (by simp [payF]) dX6_holdPaymentsFor_71 (fun H locs hW => ?_)
            rw [kW_pay (hys.1.1) (by omega) (show (k) < (y.2).1 8 0 from by omega) (f := 18) (x := 1) rfl (by simp [payF, pI])] at hW
            refine xi_iinc (lv' := [(2, .int (iI (y.1 + 1))), (4, .ref (ad (1000 + 2 * (k).toNat))), (3, .int (iI (k))), (1, .int (iI (nm))), (0, .ref (ad 1))]) hx hb dX6_holdPaymentsFor_74 hl (k := 2) rfl (by decide) rfl (fun ls hl => ?_)
            refine xi_iinc (lv' := [(3, .int (iI (k + 1))), (2, .int (iI (y.1 + 1))), (4, .ref (ad (1000 + 2 * (k).toNat))), (1, .int (iI (nm))), (0, .ref (ad 1))]) hx hb dX6_holdPaymentsFor_77 hl (k := 2) rfl (by decide) rfl (fun ls hl => ?_)
            refine lv_goto (tgt := 4) hx hb dX6_holdPaymentsFor_80 (by decide) ?_
            have hlc : lsC y.2 nm true k = true := by simp only [lsC, c_4, c_6, c_8, c_10, decide_true, decide_false, Bool.true_and, Bool.and_true, Bool.false_and, Bool.and_false, Bool.true_or, Bool.or_true, Bool.false_or, Bool.or_false, Bool.not_true, Bool.not_false, eq_self]
            have hls : lsB nm true k y = (y.1 + 1, pI y.2 18 k 1) := by rw [lsB, hlc]; rfl
            have hW : gW D B0 s_ (kW cy ad bk (lsB nm true k y).2 (I, cX, qX) G) H locs := by rw [hls]; exact hW
            have hl : lv_has ls 5 [(3, .int (iI (k + 1))), (2, .int (iI ((lsB nm true k y).1))), (1, .int (iI nm)), (0, .ref (ad 1))] := by rw [hls]; exact lv_sub hl [0, 1, 3, 4] rfl
            exact ih_lp_1 (k + 1) (lsB nm true k y) _ _ _ (by first | omega | (dsimp only; omega)) ⟨⟨⟨by omega, by omega⟩, by rw [show (k + 1).toNat = k.toNat + 1 by omega, foS_s, show ((k.toNat : Nat) : Int) = k by omega, ← hy]⟩, hW, lv_sub hl [0, 1, 2, 3] rfl⟩
def kPB (S : ST) (q : Int → Int64) (c b : Int) : Int := fiF (fun u => kPa S q b u c) 6
def kPA (S : ST) (q : Int → Int64) (c : Int) : Int := fiF (fun b => !decide (kPB S q c b = -1)) 6
def kOut (S : ST) (I : Int → Bool) (a q : Int → Int64) (c : Int) (bq : Bool) : Int := if kLo S c a = -1 then (if kPA S q c = -1 then -1 else kLa S I (kPA S q c) (kPB S q c (kPA S q c)) bq (nP S)) else kLa S I (kLo S c a) (-1) bq (nP S)
set_option maxHeartbeats 4000000 in
set_option maxRecDepth 100000 in
theorem c_X6_nextToTakeOut {l : Launch} {D : va_G} {cy : Nat → ClassId} {B0 : Nat} {ad bk : Nat → Nat} {S : ST} {I : Int → Bool} {cX qX : Int → Int64} {G : gF} (c : Int) (bq : Bool) (hwf : wf S) (hc : 0 ≤ c ∧ c ≤ 2) : gM l yX6_nextToTakeOut vX6_nextToTakeOut 6 135 D cy B0 [.ref (ad 1), .int (iI (c)), .int (iI (bI (bq)))] (kW cy ad bk S (I, cX, qX) G) (fun r g_ => r = some (pR ad (kOut S I cX qX c bq)) ∧ g_ = kW cy ad bk S (I, cX, qX) G) 0 0 := by
  refine g_start (cc := cX6_nextToTakeOut) (maxL := 6) (ret := (some (.object "MillstreamPayments$Payment"))) (by decide) rfl (Nat.le_of_ble_eq_true rfl) ?_
  intro p_ e_ s_ m_ be_ me_ co_ ls H locs K hr hlk hnm hK hW hl
  obtain ⟨hx, hb, hml, hown, hts⟩ := id K
  have hl : lv_has ls 6 [(0, .ref (ad 1)), (1, .int (iI (c))), (2, .int (iI (bI (bq))))] := hl
  have hlr := kLo_r S c cX
  refine lv_aload_n hx hb dX6_nextToTakeOut_0 rfl (lv_at hl 0 rfl) ?_
  refine g_get (ref := RX6) (T := TX6) (N := 8) (ci := 7) hx hb hts wsC_X6 hown hK hW (100000 + 1) (kW_at rfl) rfl 7 (by decide) (hts _ lC_X6_54) (fun x h => h) (v := .ref (ad 7)) rfl dX6_nextToTakeOut_1 ?_
  refine lv_aload_n hx hb dX6_nextToTakeOut_4 rfl (lv_at hl 0 rfl) ?_
  refine g_get (ref := RX6) (T := TX6) (N := 8) (ci := 7) hx hb hts wsC_X6 hown hK hW (100000 + 1) (kW_at rfl) rfl 1 (by decide) (hts _ lC_X6_21) (fun x h => h) (v := .ref (ad 3)) rfl dX6_nextToTakeOut_5 ?_
  refine lv_iload_n hx hb dX6_nextToTakeOut_8 rfl (lv_at hl 1 rfl) ?_
  refine g_callV (i := 100000 + 7) (As := [.ref (ad 3), .int (iI (c))]) (rest := []) K (c_X2_lowestTooLow (c) hwf ⟨by omega, by omega⟩) (cwV 2 hts gC_X6_169 rfl rfl rfl (by decide +kernel) ⟨Nat.le_of_ble_eq_true rfl, Nat.le_of_ble_eq_true rfl⟩) hK hW (kW_at rfl) rfl rfl hl.1 rfl (Nat.le_of_ble_eq_true rfl) dX6_nextToTakeOut_9 ⟨Nat.le_refl _, Nat.le_refl _⟩ (fun v_ f_ H locs hp hW => ?_)
  obtain ⟨hpv, hpe⟩ := hp
  rw [hpe] at hW
  have hpv : v_ = some (.int (iI (kLo S (c) cX))) := hpv
  subst hpv
  refine lv_istore_n (lv' := [(3, .int (iI (kLo S (c) cX))), (0, .ref (ad 1)), (1, .int (iI (c))), (2, .int (iI (bI (bq))))]) hx hb dX6_nextToTakeOut_12 rfl hl (by decide) rfl (fun ls hl => ?_)
  refine lv_iload_n hx hb dX6_nextToTakeOut_13 rfl (lv_at hl 0 rfl) ?_
  refine xi_iconst hx hb dX6_nextToTakeOut_14 ?_
  refine xi_icmp_eq (tgt := 26) hx hb ⟨by omega, by omega⟩ ⟨by omega, by omega⟩ dX6_nextToTakeOut_15 (by decide) (fun c_1 => ?_) (fun c_1 => ?_)
  · refine xi_iconst hx hb dX6_nextToTakeOut_26 ?_
    refine lv_istore (lv' := [(4, .int (iI (0))), (3, .int (iI (kLo S (c) cX))), (0, .ref (ad 1)), (1, .int (iI (c))), (2, .int (iI (bI (bq))))]) hx hb dX6_nextToTakeOut_27 hl (by decide) rfl (fun ls hl => ?_)
    refine lp_w1 (Wg := fun (H : Heap) (locs : List Loc) (ls : Array Slot) => W p_ l e_ { frames := 6, cells := 0, slots := 0, locals := 135 } s_ m_ ([.ref (ad 1), .int (iI (c)), .int (iI (bI (bq)))] : List Value).toArray be_ me_ co_ H locs 0 0 (MQ be_ (gQ D B0 (fun (r : Option Value) (g_ : gF) => r = some (pR ad (kOut S I cX qX c bq)) ∧ g_ = kW cy ad bk S (I, cX, qX) G)) ([.ref (ad 1), .int (iI (c)), .int (iI (bI (bq)))] : List Value).toArray s_ 0 0 (fun q : Nat => B0 ≤ q)) (F0 m_ 29 ls [])) (fun (b : Int) (H : Heap) (locs : List Loc) (ls : Array Slot) => ((0 ≤ b ∧ b ≤ 6) ∧ fiF (fun b => !decide (kPB S qX c b = -1)) b.toNat = -1) ∧ gW D B0 s_ (kW cy ad bk S (I, cX, qX) G) H locs ∧ lv_has ls 6 [(4, .int (iI (b))), (2, .int (iI (bI (bq)))), (1, .int (iI (c))), (0, .ref (ad 1))]) (fun (b : Int) => (6 - b).toNat) (fun b H locs ls hI ih_lp_2 => ?_) (0) _ _ _ ⟨⟨by decide, rfl⟩, hW, lv_sub hl [0, 4, 3, 2] rfl⟩
    obtain ⟨hI_lp_2, hW, hl⟩ := hI
    obtain ⟨hb2, hF1⟩ := hI_lp_2
    refine lv_iload hx hb dX6_nextToTakeOut_29 (lv_at hl 0 rfl) ?_
    refine xi_bipush hx hb dX6_nextToTakeOut_31 (by decide) ?_
    refine xi_icmp_ge (tgt := 87) hx hb ⟨by omega, by omega⟩ ⟨by omega, by omega⟩ dX6_nextToTakeOut_33 (by decide) (fun c_3 => ?_) (fun c_3 => ?_)
    · refine lv_null hx hb dX6_nextToTakeOut_87 ?_
      exact g_aret hx hb hr (Or.inl rfl) hW ⟨by rw [kOut, if_pos c_1, if_pos (by have h6 := hF1; rw [show b.toNat = 6 by omega] at h6; exact h6)]; rfl, rfl⟩ dX6_nextToTakeOut_88 hlk
    · refine xi_iconst hx hb dX6_nextToTakeOut_36 ?_
      refine lv_istore (lv' := [(5, .int (iI (0))), (4, .int (iI (b))), (2, .int (iI (bI (bq)))), (1, .int (iI (c))), (0, .ref (ad 1))]) hx hb dX6_nextToTakeOut_37 hl (by decide) rfl (fun ls hl => ?_)
      refine lp_w1 (Wg := fun (H : Heap) (locs : List Loc) (ls : Array Slot) => W p_ l e_ { frames := 6, cells := 0, slots := 0, locals := 135 } s_ m_ ([.ref (ad 1), .int (iI (c)), .int (iI (bI (bq)))] : List Value).toArray be_ me_ co_ H locs 0 0 (MQ be_ (gQ D B0 (fun (r : Option Value) (g_ : gF) => r = some (pR ad (kOut S I cX qX c bq)) ∧ g_ = kW cy ad bk S (I, cX, qX) G)) ([.ref (ad 1), .int (iI (c)), .int (iI (bI (bq)))] : List Value).toArray s_ 0 0 (fun q : Nat => B0 ≤ q)) (F0 m_ 39 ls [])) (fun (u : Int) (H : Heap) (locs : List Loc) (ls : Array Slot) => ((0 ≤ u ∧ u ≤ 6) ∧ fiF (fun u => kPa S qX b u c) u.toNat = -1) ∧ gW D B0 s_ (kW cy ad bk S (I, cX, qX) G) H locs ∧ lv_has ls 6 [(5, .int (iI (u))), (4, .int (iI (b))), (2, .int (iI (bI (bq)))), (1, .int (iI (c))), (0, .ref (ad 1))]) (fun (u : Int) => (6 - u).toNat) (fun u H locs ls hI ih_lp_4 => ?_) (0) _ _ _ ⟨⟨by decide, rfl⟩, hW, lv_sub hl [0, 1, 2, 3, 4] rfl⟩
      obtain ⟨hI_lp_4, hW, hl⟩ := hI
      obtain ⟨hu2, hF2⟩ := hI_lp_4
      refine lv_iload hx hb dX6_nextToTakeOut_39 (lv_at hl 0 rfl) ?_
      refine xi_bipush hx hb dX6_nextToTakeOut_41 (by decide) ?_
      refine xi_icmp_ge (tgt := 81) hx hb ⟨by omega, by omega⟩ ⟨by omega, by omega⟩ dX6_nextToTakeOut_43 (by decide) (fun c_5 => ?_) (fun c_5 => ?_)
      · refine xi_iinc (lv' := [(4, .int (iI (b + 1))), (5, .int (iI (u))), (2, .int (iI (bI (bq)))), (1, .int (iI (c))), (0, .ref (ad 1))]) hx hb dX6_nextToTakeOut_81 hl (k := 1) rfl (by decide) rfl (fun ls hl => ?_)
        refine lv_goto (tgt := 29) hx hb dX6_nextToTakeOut_84 (by decide) ?_
        exact ih_lp_2 (b + 1) _ _ _ (by first | omega | (dsimp only; omega)) ⟨⟨⟨by omega, by omega⟩, fiF_s (by omega) hF1 (by rw [show kPB S qX c b = -1 by rw [kPB, ← hF2, show u.toNat = 6 by omega]]; decide)⟩, hW, lv_sub hl [0, 2, 3, 4] rfl⟩
      · refine lv_aload_n hx hb dX6_nextToTakeOut_46 rfl (lv_at hl 4 rfl) ?_
        refine g_get (ref := RX6) (T := TX6) (N := 8) (ci := 7) hx hb hts wsC_X6 hown hK hW (100000 + 1) (kW_at rfl) rfl 7 (by decide) (hts _ lC_X6_54) (fun x h => h) (v := .ref (ad 7)) rfl dX6_nextToTakeOut_47 ?_
        refine lv_aload_n hx hb dX6_nextToTakeOut_50 rfl (lv_at hl 4 rfl) ?_
        refine g_get (ref := RX6) (T := TX6) (N := 8) (ci := 7) hx hb hts wsC_X6 hown hK hW (100000 + 1) (kW_at rfl) rfl 1 (by decide) (hts _ lC_X6_21) (fun x h => h) (v := .ref (ad 3)) rfl dX6_nextToTakeOut_51 ?_
        refine lv_iload hx hb dX6_nextToTakeOut_54 (lv_at hl 1 rfl) ?_
        refine lv_iload hx hb dX6_nextToTakeOut_56 (lv_at hl 0 rfl) ?_
        refine lv_iload_n hx hb dX6_nextToTakeOut_58 rfl (lv_at hl 3 rfl) ?_
        refine g_callV (i := 100000 + 7) (As := [.ref (ad 3), .int (iI (b)), .int (iI (u)), .int (iI (c))]) (rest := []) K (c_X2_passesLimit (b) (u) (c) hwf ⟨by omega, by omega⟩ ⟨by omega, by omega⟩ ⟨by omega, by omega⟩) (cwV 4 hts gC_X6_177 rfl rfl rfl (by decide +kernel) ⟨Nat.le_of_ble_eq_true rfl, Nat.le_of_ble_eq_true rfl⟩) hK hW (kW_at rfl) rfl rfl hl.1 rfl (Nat.le_of_ble_eq_true rfl) dX6_nextToTakeOut_59 ⟨Nat.le_refl _, Nat.le_refl _⟩ (fun v_ f_ H locs hp hW => ?_)
        obtain ⟨hpv, hpe⟩ := hp
        rw [hpe] at hW
        have hpv : v_ = some (.int (iI (bI (kPa S qX (b) (u) (c))))) := hpv
        subst hpv
        refine xi_ifb_eq (tgt := 75) hx hb dX6_nextToTakeOut_62 (by decide) (fun c_6 => ?_) (fun c_6 => ?_)
        · refine xi_iinc (lv' := [(5, .int (iI (u + 1))), (4, .int (iI (b))), (2, .int (iI (bI (bq)))), (1, .int (iI (c))), (0, .ref (ad 1))]) hx hb dX6_nextToTakeOut_75 hl (k := 0) rfl (by decide) rfl (fun ls hl => ?_)
          refine lv_goto (tgt := 39) hx hb dX6_nextToTakeOut_78 (by decide) ?_
          exact ih_lp_4 (u + 1) _ _ _ (by first | omega | (dsimp only; omega)) ⟨⟨⟨by omega, by omega⟩, fiF_s (by omega) hF2 c_6⟩, hW, lv_sub hl [0, 1, 2, 3, 4] rfl⟩
        · have hPB : kPB S qX c b = u := by rw [kPB]; exact fiF_at (by omega) (by omega) hF2 c_6
          have hPA : kPA S qX c = b := by rw [kPA]; exact fiF_at (by omega) (by omega) hF1 (by rw [hPB]; simp; omega)
          refine lv_aload_n hx hb dX6_nextToTakeOut_65 rfl (lv_at hl 4 rfl) ?_
          refine lv_iload hx hb dX6_nextToTakeOut_66 (lv_at hl 1 rfl) ?_
          refine lv_iload hx hb dX6_nextToTakeOut_68 (lv_at hl 0 rfl) ?_
          refine lv_iload_n hx hb dX6_nextToTakeOut_70 rfl (lv_at hl 2 rfl) ?_
          refine g_callV (i := 100000 + 1) (As := [.int (iI (b)), .int (iI (u)), .int (iI (bI (bq)))]) (rest := []) K (c_X6_lastInBatch (b) (u) (bq) hwf ⟨by omega, by omega⟩ ⟨by omega, by omega⟩) (cwV 3 hts gC_X6_173 rfl rfl rfl (by decide +kernel) ⟨Nat.le_of_ble_eq_true rfl, Nat.le_of_ble_eq_true rfl⟩) hK hW (kW_at rfl) rfl rfl hl.1 rfl (Nat.le_of_ble_eq_true rfl) dX6_nextToTakeOut_71 ⟨Nat.le_refl _, Nat.le_refl _⟩ (fun v_ f_ H locs hp hW => ?_)
          obtain ⟨hpv, hpe⟩ := hp
          rw [hpe] at hW
          have hpv : v_ = some (pR ad (kLa S I b u bq (nP S))) := hpv
          subst hpv
          exact g_aret hx hb hr (pR_or _ _) hW ⟨by rw [kOut, if_pos c_1, hPA, if_neg (by omega), hPB], rfl⟩ dX6_nextToTakeOut_74 hlk
  · refine lv_aload_n hx hb dX6_nextToTakeOut_18 rfl (lv_at hl 1 rfl) ?_
    refine lv_iload_n hx hb dX6_nextToTakeOut_19 rfl (lv_at hl 0 rfl) ?_
    refine xi_iconst hx hb dX6_nextToTakeOut_20 ?_
    refine lv_iload_n hx hb dX6_nextToTakeOut_21 rfl (lv_at hl 3 rfl) ?_
    refine g_callV (i := 100000 + 1) (As := [.int (iI (kLo S (c) cX)), .int (iI ((-1))), .int (iI (bI (bq)))]) (rest := []) K (c_X6_lastInBatch (kLo S (c) cX) ((-1)) (bq) hwf ⟨by omega, by omega⟩ ⟨by omega, by omega⟩) (cwV 3 hts gC_X6_173 rfl rfl rfl (by decide +kernel) ⟨Nat.le_of_ble_eq_true rfl, Nat.le_of_ble_eq_true rfl⟩) hK hW (kW_at rfl) rfl rfl hl.1 rfl (Nat.le_of_ble_eq_true rfl) dX6_nextToTakeOut_22 ⟨Nat.le_refl _, Nat.le_refl _⟩ (fun v_ f_ H locs hp hW => ?_)
    obtain ⟨hpv, hpe⟩ := hp
    rw [hpe] at hW
    have hpv : v_ = some (pR ad (kLa S I (kLo S (c) cX) (-1) bq (nP S))) := hpv
    subst hpv
    exact g_aret hx hb hr (pR_or _ _) hW ⟨by rw [kOut, if_neg c_1], rfl⟩ dX6_nextToTakeOut_25 hlk
