/-! the law's changes -/
set_option maxHeartbeats 8000000 in
set_option maxRecDepth 100000 in
theorem c_L_changes {l : Launch} {D : va_G} {cy : Nat → ClassId} {B0 x0 n : Nat} {q : Nat → Nat} (hn : n < 110) (hst : l.stackTraces = false) {S M : ST} {f : gF} (hI : cI n S) (hk : kI (fun c => M.2 0 c) S) (hM : lM S S M) (hd : S.1 0 0 ≤ n) (hF : wX D cy x0 S (lG cy q M) f) (x y : Int) (h_x : rI x) (h_y : rI y) : gM l yL_changes vL_changes 15 347 D cy B0 [.ref (x0), .ref (q 0), .ref (q 5), .int (iI (x)), .int (iI (y))] f (fun r g_ => r = some (.int (iI 1)) ∧ ∃ (T M1 : ST), wX D cy x0 T (lG cy q M1) g_ ∧ actN n S T M1) 300 27500 := by
  refine g_start (cc := cL_changes) (maxL := 12) (ret := (some .boolean)) (by decide) rfl (Nat.le_of_ble_eq_true rfl) ?_
  intro p_ e_ s_ m_ be_ me_ co_ ls H locs K hr hlk hnm hK hW hl
  obtain ⟨hx, hb, hml, hown, hts⟩ := id K
  have hl : lv_has ls 12 [(0, .ref (x0)), (1, .ref (q 0)), (2, .ref (q 5)), (3, .int (iI (x))), (4, .int (iI (y)))] := hl
  have g0 := hM.1
  have g1 := hM.2.1
  have w8 := wf_8 hI.1.1.1 0
  have w0 := wf_0 hI.1.1.1 0
  refine lv_iload_n hx hb dL_changes_0 rfl (lv_at hl 3 rfl) ?_
  refine xi_bipush hx hb dL_changes_1 (by decide) ?_
  refine g_callS (As := [.int (iI (x)), .int (iI (12))]) (rest := []) K (c_L_low (x) (12) ⟨by omega, by omega⟩ ⟨by omega, by omega⟩) (va_cwS 2 hts (gd_T gL_L_low) rfl rfl rfl (by decide +kernel) ⟨Nat.le_of_ble_eq_true rfl, Nat.le_of_ble_eq_true rfl⟩) hK hW rfl hl.1 rfl (Nat.le_of_ble_eq_true rfl) dL_changes_3 ⟨by dsimp only; omega, by dsimp only; omega⟩ (fun v_ f_ H locs hp hW => ?_)
  obtain ⟨z_1, z_1a, z_1b, hpv, hpe⟩ := hp
  rw [hpe] at hW
  subst hpv
  refine lv_istore (lv' := [(5, .int (iI (z_1))), (0, .ref (x0)), (1, .ref (q 0)), (2, .ref (q 5)), (3, .int (iI (x))), (4, .int (iI (y)))]) hx hb dL_changes_6 hl (by decide) rfl (fun ls hl => ?_)
  refine lv_iload_n hx hb dL_changes_8 rfl (lv_at hl 4 rfl) ?_
  refine xi_iconst hx hb dL_changes_9 ?_
  refine xi_ishr hx hb dL_changes_10 (fun y_2 hy_2 => ?_)
  refine xi_bipush hx hb dL_changes_11 (by decide) ?_
  refine g_callS (As := [.int (iI (y_2)), .int (iI (6))]) (rest := []) K (c_L_low (y_2) (6) ⟨by omega, by omega⟩ ⟨by omega, by omega⟩) (va_cwS 2 hts (gd_T gL_L_low) rfl rfl rfl (by decide +kernel) ⟨Nat.le_of_ble_eq_true rfl, Nat.le_of_ble_eq_true rfl⟩) hK hW rfl hl.1 rfl (Nat.le_of_ble_eq_true rfl) dL_changes_13 ⟨by dsimp only; omega, by dsimp only; omega⟩ (fun v_ f_ H locs hp hW => ?_)
  obtain ⟨z_3, z_3a, z_3b, hpv, hpe⟩ := hp
  rw [hpe] at hW
  subst hpv
  refine lv_istore (lv' := [(6, .int (iI (z_3))), (5, .int (iI (z_1))), (0, .ref (x0)), (1, .ref (q 0)), (2, .ref (q 5)), (3, .int (iI (x))), (4, .int (iI (y)))]) hx hb dL_changes_16 hl (by decide) rfl (fun ls hl => ?_)
  refine lv_iload_n hx hb dL_changes_18 rfl (lv_at hl 5 rfl) ?_
  refine xi_bipush hx hb dL_changes_19 (by decide) ?_
  refine xi_ishr hx hb dL_changes_21 (fun y_4 hy_4 => ?_)
  refine xi_iconst hx hb dL_changes_22 ?_
  refine g_callS (As := [.int (iI (y_4)), .int (iI (3))]) (rest := []) K (c_L_low (y_4) (3) ⟨by omega, by omega⟩ ⟨by omega, by omega⟩) (va_cwS 2 hts (gd_T gL_L_low) rfl rfl rfl (by decide +kernel) ⟨Nat.le_of_ble_eq_true rfl, Nat.le_of_ble_eq_true rfl⟩) hK hW rfl hl.1 rfl (Nat.le_of_ble_eq_true rfl) dL_changes_23 ⟨by dsimp only; omega, by dsimp only; omega⟩ (fun v_ f_ H locs hp hW => ?_)
  obtain ⟨z_5, z_5a, z_5b, hpv, hpe⟩ := hp
  rw [hpe] at hW
  subst hpv
  refine lv_istore (lv' := [(7, .int (iI (z_5))), (6, .int (iI (z_3))), (5, .int (iI (z_1))), (0, .ref (x0)), (1, .ref (q 0)), (2, .ref (q 5)), (3, .int (iI (x))), (4, .int (iI (y)))]) hx hb dL_changes_26 hl (by decide) rfl (fun ls hl => ?_)
  refine lv_aload_n hx hb dL_changes_28 rfl (lv_at hl 4 rfl) ?_
  refine xi_iconst hx hb dL_changes_29 ?_
  refine l_ild hx hb hK hF hW (i := 0) (by decide) (z := 0) (by omega) (by have e : ((lLen 0 : Nat) : Int) = 4 := rfl; omega) dL_changes_30 ?_
  have j_6 : ∀ (uI : Int) (f : gF) (H : Heap) (locs : List Loc), (itsI M uI) → wX D cy x0 S (lG cy q M) f → gW D B0 s_ f H locs → W p_ l e_ { frames := 15, cells := 300, slots := 27500, locals := 347 } s_ m_ ([.ref (x0), .ref (q 0), .ref (q 5), .int (iI (x)), .int (iI (y))] : List Value).toArray be_ me_ co_ H locs (0) (0) (MQ be_ (gQ D B0 (fun (r : Option Value) (g_ : gF) => r = some (.int (iI 1)) ∧ ∃ (T M1 : ST), wX D cy x0 T (lG cy q M1) g_ ∧ actN n S T M1)) ([.ref (x0), .ref (q 0), .ref (q 5), .int (iI (x)), .int (iI (y))] : List Value).toArray s_ 300 27500 (fun q : Nat => B0 ≤ q)) (F0 m_ 46 ls [.int (iI (uI))]) := by
    intro uI f H locs huI hF hW
    have uIc := huI
    unfold itsI at uIc
    refine lv_istore (lv' := [(8, .int (iI (uI))), (7, .int (iI (z_5))), (6, .int (iI (z_3))), (5, .int (iI (z_1))), (0, .ref (x0)), (1, .ref (q 0)), (2, .ref (q 5)), (3, .int (iI (x))), (4, .int (iI (y)))]) hx hb dL_changes_46 hl (by decide) rfl (fun ls hl => ?_)
    refine lv_iload hx hb dL_changes_48 (lv_at hl 3 rfl) ?_
    refine xi_iconst hx hb dL_changes_50 ?_
    refine xi_icmp_ge (tgt := 103) hx hb ⟨by omega, by omega⟩ ⟨by omega, by omega⟩ dL_changes_51 (by decide) (fun c_7 => ?_) (fun c_7 => ?_)
    · refine lv_iload hx hb dL_changes_103 (lv_at hl 3 rfl) ?_
      refine xi_iconst hx hb dL_changes_105 ?_
      refine xi_icmp_ne (tgt := 144) hx hb ⟨by omega, by omega⟩ ⟨by omega, by omega⟩ dL_changes_106 (by decide) (fun c_8 => ?_) (fun c_8 => ?_)
      · refine lv_iload hx hb dL_changes_144 (lv_at hl 3 rfl) ?_
        refine xi_iconst hx hb dL_changes_146 ?_
        refine xi_icmp_ne (tgt := 204) hx hb ⟨by omega, by omega⟩ ⟨by omega, by omega⟩ dL_changes_147 (by decide) (fun c_9 => ?_) (fun c_9 => ?_)
        · refine lv_iload hx hb dL_changes_204 (lv_at hl 3 rfl) ?_
          refine xi_iconst hx hb dL_changes_206 ?_
          refine xi_icmp_ne (tgt := 249) hx hb ⟨by omega, by omega⟩ ⟨by omega, by omega⟩ dL_changes_207 (by decide) (fun c_10 => ?_) (fun c_10 => ?_)
          · refine lv_iload hx hb dL_changes_249 (lv_at hl 3 rfl) ?_
            refine xi_iconst hx hb dL_changes_251 ?_
            refine xi_icmp_ne (tgt := 332) hx hb ⟨by omega, by omega⟩ ⟨by omega, by omega⟩ dL_changes_252 (by decide) (fun c_11 => ?_) (fun c_11 => ?_)
            · refine lv_iload hx hb dL_changes_332 (lv_at hl 3 rfl) ?_
              refine xi_bipush hx hb dL_changes_334 (by decide) ?_
              refine xi_icmp_ne (tgt := 386) hx hb ⟨by omega, by omega⟩ ⟨by omega, by omega⟩ dL_changes_336 (by decide) (fun c_12 => ?_) (fun c_12 => ?_)
              · refine lv_iload hx hb dL_changes_386 (lv_at hl 3 rfl) ?_
                refine xi_bipush hx hb dL_changes_388 (by decide) ?_
                refine xi_icmp_ne (tgt := 470) hx hb ⟨by omega, by omega⟩ ⟨by omega, by omega⟩ dL_changes_390 (by decide) (fun c_13 => ?_) (fun c_13 => ?_)
                · refine lv_iload hx hb dL_changes_470 (lv_at hl 3 rfl) ?_
                  refine xi_bipush hx hb dL_changes_472 (by decide) ?_
                  refine xi_icmp_ge (tgt := 623) hx hb ⟨by omega, by omega⟩ ⟨by omega, by omega⟩ dL_changes_474 (by decide) (fun c_14 => ?_) (fun c_14 => ?_)
                  · refine lv_iload hx hb dL_changes_623 (lv_at hl 3 rfl) ?_
                    refine xi_bipush hx hb dL_changes_625 (by decide) ?_
                    refine xi_icmp_ne (tgt := 737) hx hb ⟨by omega, by omega⟩ ⟨by omega, by omega⟩ dL_changes_627 (by decide) (fun c_15 => ?_) (fun c_15 => ?_)
                    · refine lv_aload_n hx hb dL_changes_737 rfl (lv_at hl 4 rfl) ?_
                      refine lv_iload hx hb dL_changes_738 (lv_at hl 1 rfl) ?_
                      refine g_xcallSH (As := [.ref (x0), .int (iI (z_5))]) (rest := []) K (c_L_offset (by omega) hI hst (lG_n (by decide)) (lG_n (by decide)) (lG_n (by decide)) hF (z_5) ⟨by omega, by omega⟩) (vx_cwSW 2 hts (gd_T gL_L_offset) rfl rfl rfl (by decide +kernel) ⟨Nat.le_of_ble_eq_true rfl, Nat.le_of_ble_eq_true rfl⟩) hK hW rfl hl.1 rfl (Nat.le_of_ble_eq_true rfl) dL_changes_740 ⟨by dsimp only; omega, by dsimp only; omega⟩ (fun v_ f H locs hp hW => ?_)
                      obtain ⟨t_16, T_16, ht_16, hT_16, fx_16⟩ : ∃ (t : Int) (T : ST), t = hv (pOff S (z_5)).1 (pOff S (z_5)).2.1 (-1000001) 0 0 ∧ T = (pOff S (z_5)).2.2 ∧ F_r n S M 0 (M.1 0 0) t T := ⟨_, _, rfl, rfl, f_offset (by omega) hI hk hM hd (by omega)⟩
                      obtain ⟨hpv, hF⟩ := hp
                      rw [← ht_16] at hpv
                      rw [← hT_16] at hF
                      subst hpv
                      unfold F_r at fx_16
                      have hw_16 := fx_16.2.2.1
                      have hI_16 := fx_16.2.2.2.1
                      refine lv_istore (lv' := [(9, .int (iI (t_16))), (8, .int (iI (uI))), (7, .int (iI (z_5))), (6, .int (iI (z_3))), (5, .int (iI (z_1))), (0, .ref (x0)), (1, .ref (q 0)), (2, .ref (q 5)), (3, .int (iI (x))), (4, .int (iI (y)))]) hx hb dL_changes_743 hl (by decide) rfl (fun ls hl => ?_)
                      refine lv_iload hx hb dL_changes_745 (lv_at hl 0 rfl) ?_
                      refine xi_if_lt (tgt := 762) hx hb ⟨by omega, by omega⟩ dL_changes_747 (by decide) (fun c_17 => ?_) (fun c_17 => ?_)
                      · refine xi_iconst hx hb dL_changes_762 ?_
                        exfalso; omega
                      · refine lv_iload hx hb dL_changes_750 (lv_at hl 0 rfl) ?_
                        refine lv_aload_n hx hb dL_changes_752 rfl (lv_at hl 6 rfl) ?_
                        refine xi_iconst hx hb dL_changes_753 ?_
                        refine l_ild hx hb hK hF hW (i := 0) (by decide) (z := 0) (by omega) (by have e : ((lLen 0 : Nat) : Int) = 4 := rfl; omega) dL_changes_754 ?_
                        refine xi_icmp_gt (tgt := 762) hx hb ⟨by omega, by omega⟩ ⟨by omega, by omega⟩ dL_changes_755 (by decide) (fun c_18 => ?_) (fun c_18 => ?_)
                        · refine xi_iconst hx hb dL_changes_762 ?_
                          exfalso; omega
                        · refine xi_iconst hx hb dL_changes_758 ?_
                          refine lv_goto (tgt := 763) hx hb dL_changes_759 (by decide) ?_
                          exact W.widen (by omega) (by omega) (g_zret hx hb hr (Or.inr rfl) hW ⟨rfl, T_16, _, hF, fx_16.2.2.2⟩ dL_changes_763 hlk)
                    · refine lv_aload_n hx hb dL_changes_630 rfl (lv_at hl 4 rfl) ?_
                      refine lv_iload hx hb dL_changes_631 (lv_at hl 0 rfl) ?_
                      refine g_xcallSH (As := [.ref (x0), .int (iI (uI))]) (rest := []) K (c_L_stateOf (by omega) hI hst (lG_n (by decide)) (lG_n (by decide)) (lG_n (by decide)) hF (uI) ⟨by omega, by omega⟩) (vx_cwSW 2 hts (gd_T gL_L_stateOf) rfl rfl rfl (by decide +kernel) ⟨Nat.le_of_ble_eq_true rfl, Nat.le_of_ble_eq_true rfl⟩) hK hW rfl hl.1 rfl (Nat.le_of_ble_eq_true rfl) dL_changes_633 ⟨by dsimp only; omega, by dsimp only; omega⟩ (fun v_ f H locs hp hW => ?_)
                      obtain ⟨t_19, ht_19, fs_19⟩ : ∃ t : Int, t = hv (pStat S (uI)).1 (pStat S (uI)).2.1 (-1000001) 0 0 ∧ F_st S M (uI) t := ⟨_, rfl, f_state hI g0 huI⟩
                      obtain ⟨hpv, hF⟩ := hp
                      rw [← ht_19] at hpv
                      rw [stat_S] at hF
                      subst hpv
                      unfold F_st at fs_19
                      refine lv_istore (lv' := [(9, .int (iI (t_19))), (8, .int (iI (uI))), (7, .int (iI (z_5))), (6, .int (iI (z_3))), (5, .int (iI (z_1))), (0, .ref (x0)), (1, .ref (q 0)), (2, .ref (q 5)), (3, .int (iI (x))), (4, .int (iI (y)))]) hx hb dL_changes_636 hl (by decide) rfl (fun ls hl => ?_)
                      refine lv_aload_n hx hb dL_changes_638 rfl (lv_at hl 5 rfl) ?_
                      refine lv_iload hx hb dL_changes_639 (lv_at hl 1 rfl) ?_
                      refine lv_iload hx hb dL_changes_641 (lv_at hl 9 rfl) ?_
                      refine xi_bipush hx hb dL_changes_643 (by decide) ?_
                      refine xi_ishr hx hb dL_changes_645 (fun y_20 hy_20 => ?_)
                      refine xi_iconst hx hb dL_changes_646 ?_
                      refine g_callS (As := [.int (iI (y_20)), .int (iI (4))]) (rest := [.int (iI (uI)), .ref (x0)]) K (c_L_low (y_20) (4) ⟨by omega, by omega⟩ ⟨by omega, by omega⟩) (va_cwS 2 hts (gd_T gL_L_low) rfl rfl rfl (by decide +kernel) ⟨Nat.le_of_ble_eq_true rfl, Nat.le_of_ble_eq_true rfl⟩) hK hW rfl hl.1 rfl (Nat.le_of_ble_eq_true rfl) dL_changes_647 ⟨by dsimp only; omega, by dsimp only; omega⟩ (fun v_ f_ H locs hp hW => ?_)
                      obtain ⟨z_21, z_21a, z_21b, hpv, hpe⟩ := hp
                      rw [hpe] at hW
                      subst hpv
                      refine g_xcallSH (As := [.ref (x0), .int (iI (uI)), .int (iI (z_21))]) (rest := []) K (c_L_release (by omega) hI hst (lG_n (by decide)) (lG_n (by decide)) (lG_n (by decide)) hF (uI) (z_21) ⟨by omega, by omega⟩ ⟨by omega, by omega⟩) (vx_cwSW 3 hts (gd_T gL_L_release) rfl rfl rfl (by decide +kernel) ⟨Nat.le_of_ble_eq_true rfl, Nat.le_of_ble_eq_true rfl⟩) hK hW rfl hl.1 rfl (Nat.le_of_ble_eq_true rfl) dL_changes_650 ⟨by dsimp only; omega, by dsimp only; omega⟩ (fun v_ f H locs hp hW => ?_)
                      obtain ⟨t_22, T_22, ht_22, hT_22, fx_22⟩ : ∃ (t : Int) (T : ST), t = hv (pRel S (uI) (z_21)).1 (if (iI (pRel S (uI) (z_21)).2.1) = 0 then 0 else 1) (-1000001) (-1000003) 0 ∧ T = (pRel S (uI) (z_21)).2.2 ∧ F_rel n S M (uI) t T := ⟨_, _, rfl, rfl, f_release (by omega) hI hk hM hd huI (by omega)⟩
                      obtain ⟨hpv, hF⟩ := hp
                      rw [← ht_22] at hpv
                      rw [← hT_22] at hF
                      subst hpv
                      unfold F_rel at fx_22
                      have hw_22 := fx_22.2.2.1
                      have hI_22 := fx_22.2.2.2.1
                      refine lv_istore (lv' := [(10, .int (iI (t_22))), (9, .int (iI (t_19))), (8, .int (iI (uI))), (7, .int (iI (z_5))), (6, .int (iI (z_3))), (5, .int (iI (z_1))), (0, .ref (x0)), (1, .ref (q 0)), (2, .ref (q 5)), (3, .int (iI (x))), (4, .int (iI (y)))]) hx hb dL_changes_653 hl (by decide) rfl (fun ls hl => ?_)
                      refine lv_aload_n hx hb dL_changes_655 rfl (lv_at hl 7 rfl) ?_
                      refine xi_iconst hx hb dL_changes_656 ?_
                      refine l_ild hx hb hK hF hW (i := 0) (by decide) (z := 0) (by omega) (by have e : ((lLen 0 : Nat) : Int) = 4 := rfl; omega) dL_changes_657 ?_
                      refine xi_if_ne (tgt := 676) hx hb ⟨by omega, by omega⟩ dL_changes_658 (by decide) (fun c_23 => ?_) (fun c_23 => ?_)
                      · refine lv_iload hx hb dL_changes_676 (lv_at hl 1 rfl) ?_
                        refine xi_iconst hx hb dL_changes_678 ?_
                        refine xi_icmp_eq (tgt := 697) hx hb ⟨by omega, by omega⟩ ⟨by omega, by omega⟩ dL_changes_679 (by decide) (fun c_24 => ?_) (fun c_24 => ?_)
                        · refine lv_iload hx hb dL_changes_697 (lv_at hl 0 rfl) ?_
                          refine xi_iconst hx hb dL_changes_699 ?_
                          refine xi_icmp_ne (tgt := 721) hx hb ⟨by omega, by omega⟩ ⟨by omega, by omega⟩ dL_changes_700 (by decide) (fun c_25 => ?_) (fun c_25 => ?_)
                          · refine lv_aload_n hx hb dL_changes_721 rfl (lv_at hl 6 rfl) ?_
                            refine lv_iload hx hb dL_changes_722 (lv_at hl 2 rfl) ?_
                            refine g_xcallSH (As := [.ref (x0), .int (iI (uI))]) (rest := []) K (c_L_stateOf (by omega) hI_22 hst (lG_n (by decide)) (lG_n (by decide)) (lG_n (by decide)) hF (uI) ⟨by omega, by omega⟩) (vx_cwSW 2 hts (gd_T gL_L_stateOf) rfl rfl rfl (by decide +kernel) ⟨Nat.le_of_ble_eq_true rfl, Nat.le_of_ble_eq_true rfl⟩) hK hW rfl hl.1 rfl (Nat.le_of_ble_eq_true rfl) dL_changes_724 ⟨by dsimp only; omega, by dsimp only; omega⟩ (fun v_ f H locs hp hW => ?_)
                            obtain ⟨t_26, ht_26, fs_26⟩ : ∃ t : Int, t = hv (pStat T_22 (uI)).1 (pStat T_22 (uI)).2.1 (-1000001) 0 0 ∧ F_st T_22 M (uI) t := ⟨_, rfl, f_state hI_22 (by omega) huI⟩
                            obtain ⟨hpv, hF⟩ := hp
                            rw [← ht_26] at hpv
                            rw [stat_S] at hF
                            subst hpv
                            unfold F_st at fs_26
                            refine xi_iconst hx hb dL_changes_727 ?_
                            refine xi_icmp_ne (tgt := 735) hx hb ⟨by omega, by omega⟩ ⟨by omega, by omega⟩ dL_changes_728 (by decide) (fun c_27 => ?_) (fun c_27 => ?_)
                            · refine xi_iconst hx hb dL_changes_735 ?_
                              exfalso; omega
                            · refine xi_iconst hx hb dL_changes_731 ?_
                              refine lv_goto (tgt := 736) hx hb dL_changes_732 (by decide) ?_
                              exact W.widen (by omega) (by omega) (g_zret hx hb hr (Or.inr rfl) hW ⟨rfl, T_22, _, hF, fx_22.2.2.2⟩ dL_changes_736 hlk)
                          · refine lv_aload_n hx hb dL_changes_703 rfl (lv_at hl 6 rfl) ?_
                            refine lv_iload hx hb dL_changes_704 (lv_at hl 2 rfl) ?_
                            refine g_xcallSH (As := [.ref (x0), .int (iI (uI))]) (rest := []) K (c_L_stateOf (by omega) hI_22 hst (lG_n (by decide)) (lG_n (by decide)) (lG_n (by decide)) hF (uI) ⟨by omega, by omega⟩) (vx_cwSW 2 hts (gd_T gL_L_stateOf) rfl rfl rfl (by decide +kernel) ⟨Nat.le_of_ble_eq_true rfl, Nat.le_of_ble_eq_true rfl⟩) hK hW rfl hl.1 rfl (Nat.le_of_ble_eq_true rfl) dL_changes_706 ⟨by dsimp only; omega, by dsimp only; omega⟩ (fun v_ f H locs hp hW => ?_)
                            obtain ⟨t_28, ht_28, fs_28⟩ : ∃ t : Int, t = hv (pStat T_22 (uI)).1 (pStat T_22 (uI)).2.1 (-1000001) 0 0 ∧ F_st T_22 M (uI) t := ⟨_, rfl, f_state hI_22 (by omega) huI⟩
                            obtain ⟨hpv, hF⟩ := hp
                            rw [← ht_28] at hpv
                            rw [stat_S] at hF
                            subst hpv
                            unfold F_st at fs_28
                            refine xi_iconst hx hb dL_changes_709 ?_
                            refine xi_icmp_le (tgt := 717) hx hb ⟨by omega, by omega⟩ ⟨by omega, by omega⟩ dL_changes_710 (by decide) (fun c_29 => ?_) (fun c_29 => ?_)
                            · refine xi_iconst hx hb dL_changes_717 ?_
                              refine lv_goto (tgt := 736) hx hb dL_changes_718 (by decide) ?_
                              exfalso; omega
                            · refine xi_iconst hx hb dL_changes_713 ?_
                              refine lv_goto (tgt := 736) hx hb dL_changes_714 (by decide) ?_
                              exact W.widen (by omega) (by omega) (g_zret hx hb hr (Or.inr rfl) hW ⟨rfl, T_22, _, hF, fx_22.2.2.2⟩ dL_changes_736 hlk)
                        · refine lv_iload hx hb dL_changes_682 (lv_at hl 0 rfl) ?_
                          refine xi_ldc hx hb (-1000003) (by decide) hown (hts _ kL_44) dL_changes_684 ?_
                          refine xi_icmp_ne (tgt := 693) hx hb ⟨by omega, by omega⟩ ⟨by omega, by omega⟩ dL_changes_686 (by decide) (fun c_30 => ?_) (fun c_30 => ?_)
                          · refine xi_iconst hx hb dL_changes_693 ?_
                            refine lv_goto (tgt := 736) hx hb dL_changes_694 (by decide) ?_
                            exfalso; omega
                          · refine xi_iconst hx hb dL_changes_689 ?_
                            refine lv_goto (tgt := 736) hx hb dL_changes_690 (by decide) ?_
                            exact W.widen (by omega) (by omega) (g_zret hx hb hr (Or.inr rfl) hW ⟨rfl, T_22, _, hF, fx_22.2.2.2⟩ dL_changes_736 hlk)
                      · refine lv_iload hx hb dL_changes_661 (lv_at hl 0 rfl) ?_
                        refine xi_ldc hx hb (-1000001) (by decide) hown (hts _ kL_18) dL_changes_663 ?_
                        refine xi_icmp_ne (tgt := 672) hx hb ⟨by omega, by omega⟩ ⟨by omega, by omega⟩ dL_changes_665 (by decide) (fun c_31 => ?_) (fun c_31 => ?_)
                        · refine xi_iconst hx hb dL_changes_672 ?_
                          refine lv_goto (tgt := 736) hx hb dL_changes_673 (by decide) ?_
                          exfalso; omega
                        · refine xi_iconst hx hb dL_changes_668 ?_
                          refine lv_goto (tgt := 736) hx hb dL_changes_669 (by decide) ?_
                          exact W.widen (by omega) (by omega) (g_zret hx hb hr (Or.inr rfl) hW ⟨rfl, T_22, _, hF, fx_22.2.2.2⟩ dL_changes_736 hlk)
                  · refine lv_aload_n hx hb dL_changes_477 rfl (lv_at hl 4 rfl) ?_
                    refine lv_iload hx hb dL_changes_478 (lv_at hl 0 rfl) ?_
                    refine g_xcallSH (As := [.ref (x0), .int (iI (uI))]) (rest := []) K (c_L_stateOf (by omega) hI hst (lG_n (by decide)) (lG_n (by decide)) (lG_n (by decide)) hF (uI) ⟨by omega, by omega⟩) (vx_cwSW 2 hts (gd_T gL_L_stateOf) rfl rfl rfl (by decide +kernel) ⟨Nat.le_of_ble_eq_true rfl, Nat.le_of_ble_eq_true rfl⟩) hK hW rfl hl.1 rfl (Nat.le_of_ble_eq_true rfl) dL_changes_480 ⟨by dsimp only; omega, by dsimp only; omega⟩ (fun v_ f H locs hp hW => ?_)
                    obtain ⟨t_32, ht_32, fs_32⟩ : ∃ t : Int, t = hv (pStat S (uI)).1 (pStat S (uI)).2.1 (-1000001) 0 0 ∧ F_st S M (uI) t := ⟨_, rfl, f_state hI g0 huI⟩
                    obtain ⟨hpv, hF⟩ := hp
                    rw [← ht_32] at hpv
                    rw [stat_S] at hF
                    subst hpv
                    unfold F_st at fs_32
                    refine lv_istore (lv' := [(9, .int (iI (t_32))), (8, .int (iI (uI))), (7, .int (iI (z_5))), (6, .int (iI (z_3))), (5, .int (iI (z_1))), (0, .ref (x0)), (1, .ref (q 0)), (2, .ref (q 5)), (3, .int (iI (x))), (4, .int (iI (y)))]) hx hb dL_changes_483 hl (by decide) rfl (fun ls hl => ?_)
                    refine lv_iload hx hb dL_changes_485 (lv_at hl 4 rfl) ?_
                    refine xi_bipush hx hb dL_changes_487 (by decide) ?_
                    refine xi_icmp_ne (tgt := 501) hx hb ⟨by omega, by omega⟩ ⟨by omega, by omega⟩ dL_changes_489 (by decide) (fun c_33 => ?_) (fun c_33 => ?_)
                    · refine lv_aload_n hx hb dL_changes_501 rfl (lv_at hl 5 rfl) ?_
                      refine lv_iload hx hb dL_changes_502 (lv_at hl 1 rfl) ?_
                      refine g_xcallSH (As := [.ref (x0), .int (iI (uI))]) (rest := []) K (c_L_refuse (by omega) hI hst (lG_n (by decide)) (lG_n (by decide)) (lG_n (by decide)) hF (uI) ⟨by omega, by omega⟩) (vx_cwSW 2 hts (gd_T gL_L_refuse) rfl rfl rfl (by decide +kernel) ⟨Nat.le_of_ble_eq_true rfl, Nat.le_of_ble_eq_true rfl⟩) hK hW rfl hl.1 rfl (Nat.le_of_ble_eq_true rfl) dL_changes_504 ⟨by dsimp only; omega, by dsimp only; omega⟩ (fun v_ f H locs hp hW => ?_)
                      obtain ⟨t_34, T_34, ht_34, hT_34, fx_34⟩ : ∃ (t : Int) (T : ST), t = hv (pRefu S (uI)).1 (pRefu S (uI)).2.1 (-1000001) (-1000003) 0 ∧ T = (pRefu S (uI)).2.2 ∧ F_end n S M (S.1 18 (uI) = 1) (S.1 18 (uI) < 1 ∨ 1 < S.1 18 (uI)) (uI) t T := ⟨_, _, rfl, rfl, f_refuse (by omega) hI hk hM hd huI⟩
                      obtain ⟨hpv, hF⟩ := hp
                      rw [← ht_34] at hpv
                      rw [← hT_34] at hF
                      subst hpv
                      unfold F_end at fx_34
                      have hw_34 := fx_34.2.2.1
                      have hI_34 := fx_34.2.2.2.1
                      refine lv_istore (lv' := [(10, .int (iI (t_34))), (9, .int (iI (t_32))), (8, .int (iI (uI))), (7, .int (iI (z_5))), (6, .int (iI (z_3))), (5, .int (iI (z_1))), (0, .ref (x0)), (1, .ref (q 0)), (2, .ref (q 5)), (3, .int (iI (x))), (4, .int (iI (y)))]) hx hb dL_changes_507 hl (by decide) rfl (fun ls hl => ?_)
                      refine lv_iload hx hb dL_changes_509 (lv_at hl 5 rfl) ?_
                      refine xi_bipush hx hb dL_changes_511 (by decide) ?_
                      refine xi_icmp_ne (tgt := 530) hx hb ⟨by omega, by omega⟩ ⟨by omega, by omega⟩ dL_changes_513 (by decide) (fun c_35 => ?_) (fun c_35 => ?_)
                      · refine lv_iload hx hb dL_changes_530 (lv_at hl 1 rfl) ?_
                        refine xi_iconst hx hb dL_changes_532 ?_
                        refine xi_icmp_ne (tgt := 540) hx hb ⟨by omega, by omega⟩ ⟨by omega, by omega⟩ dL_changes_533 (by decide) (fun c_36 => ?_) (fun c_36 => ?_)
                        · refine xi_iconst hx hb dL_changes_540 ?_
                          refine lv_istore (lv' := [(11, .int (iI (0))), (10, .int (iI (t_34))), (9, .int (iI (t_32))), (8, .int (iI (uI))), (7, .int (iI (z_5))), (6, .int (iI (z_3))), (5, .int (iI (z_1))), (0, .ref (x0)), (1, .ref (q 0)), (2, .ref (q 5)), (3, .int (iI (x))), (4, .int (iI (y)))]) hx hb dL_changes_541 hl (by decide) rfl (fun ls hl => ?_)
                          refine lv_aload_n hx hb dL_changes_543 rfl (lv_at hl 8 rfl) ?_
                          refine xi_iconst hx hb dL_changes_544 ?_
                          refine l_ild hx hb hK hF hW (i := 0) (by decide) (z := 0) (by omega) (by have e : ((lLen 0 : Nat) : Int) = 4 := rfl; omega) dL_changes_545 ?_
                          refine xi_if_ne (tgt := 564) hx hb ⟨by omega, by omega⟩ dL_changes_546 (by decide) (fun c_37 => ?_) (fun c_37 => ?_)
                          · refine lv_iload hx hb dL_changes_564 (lv_at hl 0 rfl) ?_
                            refine xi_if_eq (tgt := 599) hx hb ⟨by omega, by omega⟩ dL_changes_566 (by decide) (fun c_38 => ?_) (fun c_38 => ?_)
                            · refine lv_iload hx hb dL_changes_599 (lv_at hl 1 rfl) ?_
                              refine xi_ldc hx hb (-1000003) (by decide) hown (hts _ kL_44) dL_changes_601 ?_
                              refine xi_icmp_ne (tgt := 621) hx hb ⟨by omega, by omega⟩ ⟨by omega, by omega⟩ dL_changes_603 (by decide) (fun c_39 => ?_) (fun c_39 => ?_)
                              · refine xi_iconst hx hb dL_changes_621 ?_
                                exfalso; omega
                              · refine lv_aload_n hx hb dL_changes_606 rfl (lv_at hl 7 rfl) ?_
                                refine lv_iload hx hb dL_changes_607 (lv_at hl 3 rfl) ?_
                                refine g_xcallSH (As := [.ref (x0), .int (iI (uI))]) (rest := []) K (c_L_stateOf (by omega) hI_34 hst (lG_n (by decide)) (lG_n (by decide)) (lG_n (by decide)) hF (uI) ⟨by omega, by omega⟩) (vx_cwSW 2 hts (gd_T gL_L_stateOf) rfl rfl rfl (by decide +kernel) ⟨Nat.le_of_ble_eq_true rfl, Nat.le_of_ble_eq_true rfl⟩) hK hW rfl hl.1 rfl (Nat.le_of_ble_eq_true rfl) dL_changes_609 ⟨by dsimp only; omega, by dsimp only; omega⟩ (fun v_ f H locs hp hW => ?_)
                                obtain ⟨t_40, ht_40, fs_40⟩ : ∃ t : Int, t = hv (pStat T_34 (uI)).1 (pStat T_34 (uI)).2.1 (-1000001) 0 0 ∧ F_st T_34 M (uI) t := ⟨_, rfl, f_state hI_34 (by omega) huI⟩
                                obtain ⟨hpv, hF⟩ := hp
                                rw [← ht_40] at hpv
                                rw [stat_S] at hF
                                subst hpv
                                unfold F_st at fs_40
                                refine lv_iload hx hb dL_changes_612 (lv_at hl 2 rfl) ?_
                                refine xi_icmp_ne (tgt := 621) hx hb ⟨by omega, by omega⟩ ⟨by omega, by omega⟩ dL_changes_614 (by decide) (fun c_41 => ?_) (fun c_41 => ?_)
                                · refine xi_iconst hx hb dL_changes_621 ?_
                                  exfalso; omega
                                · refine xi_iconst hx hb dL_changes_617 ?_
                                  refine lv_goto (tgt := 622) hx hb dL_changes_618 (by decide) ?_
                                  exact W.widen (by omega) (by omega) (g_zret hx hb hr (Or.inr rfl) hW ⟨rfl, T_34, _, hF, fx_34.2.2.2⟩ dL_changes_622 hlk)
                            · exfalso
                              omega
                          · refine lv_iload hx hb dL_changes_549 (lv_at hl 1 rfl) ?_
                            refine xi_ldc hx hb (-1000001) (by decide) hown (hts _ kL_18) dL_changes_551 ?_
                            refine xi_icmp_ne (tgt := 560) hx hb ⟨by omega, by omega⟩ ⟨by omega, by omega⟩ dL_changes_553 (by decide) (fun c_42 => ?_) (fun c_42 => ?_)
                            · refine xi_iconst hx hb dL_changes_560 ?_
                              refine lv_goto (tgt := 622) hx hb dL_changes_561 (by decide) ?_
                              exfalso; omega
                            · refine xi_iconst hx hb dL_changes_556 ?_
                              refine lv_goto (tgt := 622) hx hb dL_changes_557 (by decide) ?_
                              exact W.widen (by omega) (by omega) (g_zret hx hb hr (Or.inr rfl) hW ⟨rfl, T_34, _, hF, fx_34.2.2.2⟩ dL_changes_622 hlk)
                        · refine xi_iconst hx hb dL_changes_536 ?_
                          refine lv_goto (tgt := 541) hx hb dL_changes_537 (by decide) ?_
                          refine lv_istore (lv' := [(11, .int (iI (1))), (10, .int (iI (t_34))), (9, .int (iI (t_32))), (8, .int (iI (uI))), (7, .int (iI (z_5))), (6, .int (iI (z_3))), (5, .int (iI (z_1))), (0, .ref (x0)), (1, .ref (q 0)), (2, .ref (q 5)), (3, .int (iI (x))), (4, .int (iI (y)))]) hx hb dL_changes_541 hl (by decide) rfl (fun ls hl => ?_)
                          refine lv_aload_n hx hb dL_changes_543 rfl (lv_at hl 8 rfl) ?_
                          refine xi_iconst hx hb dL_changes_544 ?_
                          refine l_ild hx hb hK hF hW (i := 0) (by decide) (z := 0) (by omega) (by have e : ((lLen 0 : Nat) : Int) = 4 := rfl; omega) dL_changes_545 ?_
                          refine xi_if_ne (tgt := 564) hx hb ⟨by omega, by omega⟩ dL_changes_546 (by decide) (fun c_43 => ?_) (fun c_43 => ?_)
                          · refine lv_iload hx hb dL_changes_564 (lv_at hl 0 rfl) ?_
                            refine xi_if_eq (tgt := 599) hx hb ⟨by omega, by omega⟩ dL_changes_566 (by decide) (fun c_44 => ?_) (fun c_44 => ?_)
                            · exfalso
                              omega
                            · refine lv_iload hx hb dL_changes_569 (lv_at hl 1 rfl) ?_
                              refine xi_iconst hx hb dL_changes_571 ?_
                              refine xi_icmp_eq (tgt := 581) hx hb ⟨by omega, by omega⟩ ⟨by omega, by omega⟩ dL_changes_572 (by decide) (fun c_45 => ?_) (fun c_45 => ?_)
                              · refine lv_aload_n hx hb dL_changes_581 rfl (lv_at hl 7 rfl) ?_
                                refine lv_iload hx hb dL_changes_582 (lv_at hl 3 rfl) ?_
                                refine g_xcallSH (As := [.ref (x0), .int (iI (uI))]) (rest := []) K (c_L_stateOf (by omega) hI_34 hst (lG_n (by decide)) (lG_n (by decide)) (lG_n (by decide)) hF (uI) ⟨by omega, by omega⟩) (vx_cwSW 2 hts (gd_T gL_L_stateOf) rfl rfl rfl (by decide +kernel) ⟨Nat.le_of_ble_eq_true rfl, Nat.le_of_ble_eq_true rfl⟩) hK hW rfl hl.1 rfl (Nat.le_of_ble_eq_true rfl) dL_changes_584 ⟨by dsimp only; omega, by dsimp only; omega⟩ (fun v_ f H locs hp hW => ?_)
                                obtain ⟨t_46, ht_46, fs_46⟩ : ∃ t : Int, t = hv (pStat T_34 (uI)).1 (pStat T_34 (uI)).2.1 (-1000001) 0 0 ∧ F_st T_34 M (uI) t := ⟨_, rfl, f_state hI_34 (by omega) huI⟩
                                obtain ⟨hpv, hF⟩ := hp
                                rw [← ht_46] at hpv
                                rw [stat_S] at hF
                                subst hpv
                                unfold F_st at fs_46
                                refine xi_iconst hx hb dL_changes_587 ?_
                                refine xi_icmp_ne (tgt := 595) hx hb ⟨by omega, by omega⟩ ⟨by omega, by omega⟩ dL_changes_588 (by decide) (fun c_47 => ?_) (fun c_47 => ?_)
                                · refine xi_iconst hx hb dL_changes_595 ?_
                                  refine lv_goto (tgt := 622) hx hb dL_changes_596 (by decide) ?_
                                  exfalso; omega
                                · refine xi_iconst hx hb dL_changes_591 ?_
                                  refine lv_goto (tgt := 622) hx hb dL_changes_592 (by decide) ?_
                                  exact W.widen (by omega) (by omega) (g_zret hx hb hr (Or.inr rfl) hW ⟨rfl, T_34, _, hF, fx_34.2.2.2⟩ dL_changes_622 hlk)
                              · refine lv_iload hx hb dL_changes_575 (lv_at hl 1 rfl) ?_
                                refine xi_iconst hx hb dL_changes_577 ?_
                                refine xi_icmp_ne (tgt := 595) hx hb ⟨by omega, by omega⟩ ⟨by omega, by omega⟩ dL_changes_578 (by decide) (fun c_48 => ?_) (fun c_48 => ?_)
                                · refine xi_iconst hx hb dL_changes_595 ?_
                                  refine lv_goto (tgt := 622) hx hb dL_changes_596 (by decide) ?_
                                  exfalso; omega
                                · refine lv_aload_n hx hb dL_changes_581 rfl (lv_at hl 7 rfl) ?_
                                  refine lv_iload hx hb dL_changes_582 (lv_at hl 3 rfl) ?_
                                  refine g_xcallSH (As := [.ref (x0), .int (iI (uI))]) (rest := []) K (c_L_stateOf (by omega) hI_34 hst (lG_n (by decide)) (lG_n (by decide)) (lG_n (by decide)) hF (uI) ⟨by omega, by omega⟩) (vx_cwSW 2 hts (gd_T gL_L_stateOf) rfl rfl rfl (by decide +kernel) ⟨Nat.le_of_ble_eq_true rfl, Nat.le_of_ble_eq_true rfl⟩) hK hW rfl hl.1 rfl (Nat.le_of_ble_eq_true rfl) dL_changes_584 ⟨by dsimp only; omega, by dsimp only; omega⟩ (fun v_ f H locs hp hW => ?_)
                                  obtain ⟨t_49, ht_49, fs_49⟩ : ∃ t : Int, t = hv (pStat T_34 (uI)).1 (pStat T_34 (uI)).2.1 (-1000001) 0 0 ∧ F_st T_34 M (uI) t := ⟨_, rfl, f_state hI_34 (by omega) huI⟩
                                  obtain ⟨hpv, hF⟩ := hp
                                  rw [← ht_49] at hpv
                                  rw [stat_S] at hF
                                  subst hpv
                                  unfold F_st at fs_49
                                  refine xi_iconst hx hb dL_changes_587 ?_
                                  refine xi_icmp_ne (tgt := 595) hx hb ⟨by omega, by omega⟩ ⟨by omega, by omega⟩ dL_changes_588 (by decide) (fun c_50 => ?_) (fun c_50 => ?_)
                                  · refine xi_iconst hx hb dL_changes_595 ?_
                                    refine lv_goto (tgt := 622) hx hb dL_changes_596 (by decide) ?_
                                    exfalso; omega
                                  · refine xi_iconst hx hb dL_changes_591 ?_
                                    refine lv_goto (tgt := 622) hx hb dL_changes_592 (by decide) ?_
                                    exact W.widen (by omega) (by omega) (g_zret hx hb hr (Or.inr rfl) hW ⟨rfl, T_34, _, hF, fx_34.2.2.2⟩ dL_changes_622 hlk)
                          · refine lv_iload hx hb dL_changes_549 (lv_at hl 1 rfl) ?_
                            refine xi_ldc hx hb (-1000001) (by decide) hown (hts _ kL_18) dL_changes_551 ?_
                            refine xi_icmp_ne (tgt := 560) hx hb ⟨by omega, by omega⟩ ⟨by omega, by omega⟩ dL_changes_553 (by decide) (fun c_51 => ?_) (fun c_51 => ?_)
                            · refine xi_iconst hx hb dL_changes_560 ?_
                              refine lv_goto (tgt := 622) hx hb dL_changes_561 (by decide) ?_
                              exfalso; omega
                            · refine xi_iconst hx hb dL_changes_556 ?_
                              refine lv_goto (tgt := 622) hx hb dL_changes_557 (by decide) ?_
                              exact W.widen (by omega) (by omega) (g_zret hx hb hr (Or.inr rfl) hW ⟨rfl, T_34, _, hF, fx_34.2.2.2⟩ dL_changes_622 hlk)
                      · refine lv_iload hx hb dL_changes_516 (lv_at hl 1 rfl) ?_
                        refine xi_iconst hx hb dL_changes_518 ?_
                        refine xi_icmp_ge (tgt := 526) hx hb ⟨by omega, by omega⟩ ⟨by omega, by omega⟩ dL_changes_519 (by decide) (fun c_52 => ?_) (fun c_52 => ?_)
                        · refine xi_iconst hx hb dL_changes_526 ?_
                          refine lv_goto (tgt := 541) hx hb dL_changes_527 (by decide) ?_
                          refine lv_istore (lv' := [(11, .int (iI (0))), (10, .int (iI (t_34))), (9, .int (iI (t_32))), (8, .int (iI (uI))), (7, .int (iI (z_5))), (6, .int (iI (z_3))), (5, .int (iI (z_1))), (0, .ref (x0)), (1, .ref (q 0)), (2, .ref (q 5)), (3, .int (iI (x))), (4, .int (iI (y)))]) hx hb dL_changes_541 hl (by decide) rfl (fun ls hl => ?_)
                          refine lv_aload_n hx hb dL_changes_543 rfl (lv_at hl 8 rfl) ?_
                          refine xi_iconst hx hb dL_changes_544 ?_
                          refine l_ild hx hb hK hF hW (i := 0) (by decide) (z := 0) (by omega) (by have e : ((lLen 0 : Nat) : Int) = 4 := rfl; omega) dL_changes_545 ?_
                          refine xi_if_ne (tgt := 564) hx hb ⟨by omega, by omega⟩ dL_changes_546 (by decide) (fun c_53 => ?_) (fun c_53 => ?_)
                          · refine lv_iload hx hb dL_changes_564 (lv_at hl 0 rfl) ?_
                            refine xi_if_eq (tgt := 599) hx hb ⟨by omega, by omega⟩ dL_changes_566 (by decide) (fun c_54 => ?_) (fun c_54 => ?_)
                            · refine lv_iload hx hb dL_changes_599 (lv_at hl 1 rfl) ?_
                              refine xi_ldc hx hb (-1000003) (by decide) hown (hts _ kL_44) dL_changes_601 ?_
                              refine xi_icmp_ne (tgt := 621) hx hb ⟨by omega, by omega⟩ ⟨by omega, by omega⟩ dL_changes_603 (by decide) (fun c_55 => ?_) (fun c_55 => ?_)
                              · refine xi_iconst hx hb dL_changes_621 ?_
                                exfalso; omega
                              · refine lv_aload_n hx hb dL_changes_606 rfl (lv_at hl 7 rfl) ?_
                                refine lv_iload hx hb dL_changes_607 (lv_at hl 3 rfl) ?_
                                refine g_xcallSH (As := [.ref (x0), .int (iI (uI))]) (rest := []) K (c_L_stateOf (by omega) hI_34 hst (lG_n (by decide)) (lG_n (by decide)) (lG_n (by decide)) hF (uI) ⟨by omega, by omega⟩) (vx_cwSW 2 hts (gd_T gL_L_stateOf) rfl rfl rfl (by decide +kernel) ⟨Nat.le_of_ble_eq_true rfl, Nat.le_of_ble_eq_true rfl⟩) hK hW rfl hl.1 rfl (Nat.le_of_ble_eq_true rfl) dL_changes_609 ⟨by dsimp only; omega, by dsimp only; omega⟩ (fun v_ f H locs hp hW => ?_)
                                obtain ⟨t_56, ht_56, fs_56⟩ : ∃ t : Int, t = hv (pStat T_34 (uI)).1 (pStat T_34 (uI)).2.1 (-1000001) 0 0 ∧ F_st T_34 M (uI) t := ⟨_, rfl, f_state hI_34 (by omega) huI⟩
                                obtain ⟨hpv, hF⟩ := hp
                                rw [← ht_56] at hpv
                                rw [stat_S] at hF
                                subst hpv
                                unfold F_st at fs_56
                                refine lv_iload hx hb dL_changes_612 (lv_at hl 2 rfl) ?_
                                refine xi_icmp_ne (tgt := 621) hx hb ⟨by omega, by omega⟩ ⟨by omega, by omega⟩ dL_changes_614 (by decide) (fun c_57 => ?_) (fun c_57 => ?_)
                                · refine xi_iconst hx hb dL_changes_621 ?_
                                  exfalso; omega
                                · refine xi_iconst hx hb dL_changes_617 ?_
                                  refine lv_goto (tgt := 622) hx hb dL_changes_618 (by decide) ?_
                                  exact W.widen (by omega) (by omega) (g_zret hx hb hr (Or.inr rfl) hW ⟨rfl, T_34, _, hF, fx_34.2.2.2⟩ dL_changes_622 hlk)
                            · exfalso
                              omega
                          · refine lv_iload hx hb dL_changes_549 (lv_at hl 1 rfl) ?_
                            refine xi_ldc hx hb (-1000001) (by decide) hown (hts _ kL_18) dL_changes_551 ?_
                            refine xi_icmp_ne (tgt := 560) hx hb ⟨by omega, by omega⟩ ⟨by omega, by omega⟩ dL_changes_553 (by decide) (fun c_58 => ?_) (fun c_58 => ?_)
                            · refine xi_iconst hx hb dL_changes_560 ?_
                              refine lv_goto (tgt := 622) hx hb dL_changes_561 (by decide) ?_
                              exfalso; omega
                            · refine xi_iconst hx hb dL_changes_556 ?_
                              refine lv_goto (tgt := 622) hx hb dL_changes_557 (by decide) ?_
                              exact W.widen (by omega) (by omega) (g_zret hx hb hr (Or.inr rfl) hW ⟨rfl, T_34, _, hF, fx_34.2.2.2⟩ dL_changes_622 hlk)
                        · refine xi_iconst hx hb dL_changes_522 ?_
                          refine lv_goto (tgt := 541) hx hb dL_changes_523 (by decide) ?_
                          refine lv_istore (lv' := [(11, .int (iI (1))), (10, .int (iI (t_34))), (9, .int (iI (t_32))), (8, .int (iI (uI))), (7, .int (iI (z_5))), (6, .int (iI (z_3))), (5, .int (iI (z_1))), (0, .ref (x0)), (1, .ref (q 0)), (2, .ref (q 5)), (3, .int (iI (x))), (4, .int (iI (y)))]) hx hb dL_changes_541 hl (by decide) rfl (fun ls hl => ?_)
                          refine lv_aload_n hx hb dL_changes_543 rfl (lv_at hl 8 rfl) ?_
                          refine xi_iconst hx hb dL_changes_544 ?_
                          refine l_ild hx hb hK hF hW (i := 0) (by decide) (z := 0) (by omega) (by have e : ((lLen 0 : Nat) : Int) = 4 := rfl; omega) dL_changes_545 ?_
                          refine xi_if_ne (tgt := 564) hx hb ⟨by omega, by omega⟩ dL_changes_546 (by decide) (fun c_59 => ?_) (fun c_59 => ?_)
                          · refine lv_iload hx hb dL_changes_564 (lv_at hl 0 rfl) ?_
                            refine xi_if_eq (tgt := 599) hx hb ⟨by omega, by omega⟩ dL_changes_566 (by decide) (fun c_60 => ?_) (fun c_60 => ?_)
                            · exfalso
                              omega
                            · refine lv_iload hx hb dL_changes_569 (lv_at hl 1 rfl) ?_
                              refine xi_iconst hx hb dL_changes_571 ?_
                              refine xi_icmp_eq (tgt := 581) hx hb ⟨by omega, by omega⟩ ⟨by omega, by omega⟩ dL_changes_572 (by decide) (fun c_61 => ?_) (fun c_61 => ?_)
                              · refine lv_aload_n hx hb dL_changes_581 rfl (lv_at hl 7 rfl) ?_
                                refine lv_iload hx hb dL_changes_582 (lv_at hl 3 rfl) ?_
                                refine g_xcallSH (As := [.ref (x0), .int (iI (uI))]) (rest := []) K (c_L_stateOf (by omega) hI_34 hst (lG_n (by decide)) (lG_n (by decide)) (lG_n (by decide)) hF (uI) ⟨by omega, by omega⟩) (vx_cwSW 2 hts (gd_T gL_L_stateOf) rfl rfl rfl (by decide +kernel) ⟨Nat.le_of_ble_eq_true rfl, Nat.le_of_ble_eq_true rfl⟩) hK hW rfl hl.1 rfl (Nat.le_of_ble_eq_true rfl) dL_changes_584 ⟨by dsimp only; omega, by dsimp only; omega⟩ (fun v_ f H locs hp hW => ?_)
                                obtain ⟨t_62, ht_62, fs_62⟩ : ∃ t : Int, t = hv (pStat T_34 (uI)).1 (pStat T_34 (uI)).2.1 (-1000001) 0 0 ∧ F_st T_34 M (uI) t := ⟨_, rfl, f_state hI_34 (by omega) huI⟩
                                obtain ⟨hpv, hF⟩ := hp
                                rw [← ht_62] at hpv
                                rw [stat_S] at hF
                                subst hpv
                                unfold F_st at fs_62
                                refine xi_iconst hx hb dL_changes_587 ?_
                                refine xi_icmp_ne (tgt := 595) hx hb ⟨by omega, by omega⟩ ⟨by omega, by omega⟩ dL_changes_588 (by decide) (fun c_63 => ?_) (fun c_63 => ?_)
                                · refine xi_iconst hx hb dL_changes_595 ?_
                                  refine lv_goto (tgt := 622) hx hb dL_changes_596 (by decide) ?_
                                  exfalso; omega
                                · refine xi_iconst hx hb dL_changes_591 ?_
                                  refine lv_goto (tgt := 622) hx hb dL_changes_592 (by decide) ?_
                                  exact W.widen (by omega) (by omega) (g_zret hx hb hr (Or.inr rfl) hW ⟨rfl, T_34, _, hF, fx_34.2.2.2⟩ dL_changes_622 hlk)
                              · refine lv_iload hx hb dL_changes_575 (lv_at hl 1 rfl) ?_
                                refine xi_iconst hx hb dL_changes_577 ?_
                                refine xi_icmp_ne (tgt := 595) hx hb ⟨by omega, by omega⟩ ⟨by omega, by omega⟩ dL_changes_578 (by decide) (fun c_64 => ?_) (fun c_64 => ?_)
                                · refine xi_iconst hx hb dL_changes_595 ?_
                                  refine lv_goto (tgt := 622) hx hb dL_changes_596 (by decide) ?_
                                  exfalso; omega
                                · refine lv_aload_n hx hb dL_changes_581 rfl (lv_at hl 7 rfl) ?_
                                  refine lv_iload hx hb dL_changes_582 (lv_at hl 3 rfl) ?_
                                  refine g_xcallSH (As := [.ref (x0), .int (iI (uI))]) (rest := []) K (c_L_stateOf (by omega) hI_34 hst (lG_n (by decide)) (lG_n (by decide)) (lG_n (by decide)) hF (uI) ⟨by omega, by omega⟩) (vx_cwSW 2 hts (gd_T gL_L_stateOf) rfl rfl rfl (by decide +kernel) ⟨Nat.le_of_ble_eq_true rfl, Nat.le_of_ble_eq_true rfl⟩) hK hW rfl hl.1 rfl (Nat.le_of_ble_eq_true rfl) dL_changes_584 ⟨by dsimp only; omega, by dsimp only; omega⟩ (fun v_ f H locs hp hW => ?_)
                                  obtain ⟨t_65, ht_65, fs_65⟩ : ∃ t : Int, t = hv (pStat T_34 (uI)).1 (pStat T_34 (uI)).2.1 (-1000001) 0 0 ∧ F_st T_34 M (uI) t := ⟨_, rfl, f_state hI_34 (by omega) huI⟩
                                  obtain ⟨hpv, hF⟩ := hp
                                  rw [← ht_65] at hpv
                                  rw [stat_S] at hF
                                  subst hpv
                                  unfold F_st at fs_65
                                  refine xi_iconst hx hb dL_changes_587 ?_
                                  refine xi_icmp_ne (tgt := 595) hx hb ⟨by omega, by omega⟩ ⟨by omega, by omega⟩ dL_changes_588 (by decide) (fun c_66 => ?_) (fun c_66 => ?_)
                                  · refine xi_iconst hx hb dL_changes_595 ?_
                                    refine lv_goto (tgt := 622) hx hb dL_changes_596 (by decide) ?_
                                    exfalso; omega
                                  · refine xi_iconst hx hb dL_changes_591 ?_
                                    refine lv_goto (tgt := 622) hx hb dL_changes_592 (by decide) ?_
                                    exact W.widen (by omega) (by omega) (g_zret hx hb hr (Or.inr rfl) hW ⟨rfl, T_34, _, hF, fx_34.2.2.2⟩ dL_changes_622 hlk)
                          · refine lv_iload hx hb dL_changes_549 (lv_at hl 1 rfl) ?_
                            refine xi_ldc hx hb (-1000001) (by decide) hown (hts _ kL_18) dL_changes_551 ?_
                            refine xi_icmp_ne (tgt := 560) hx hb ⟨by omega, by omega⟩ ⟨by omega, by omega⟩ dL_changes_553 (by decide) (fun c_67 => ?_) (fun c_67 => ?_)
                            · refine xi_iconst hx hb dL_changes_560 ?_
                              refine lv_goto (tgt := 622) hx hb dL_changes_561 (by decide) ?_
                              exfalso; omega
                            · refine xi_iconst hx hb dL_changes_556 ?_
                              refine lv_goto (tgt := 622) hx hb dL_changes_557 (by decide) ?_
                              exact W.widen (by omega) (by omega) (g_zret hx hb hr (Or.inr rfl) hW ⟨rfl, T_34, _, hF, fx_34.2.2.2⟩ dL_changes_622 hlk)
                    · refine lv_aload_n hx hb dL_changes_492 rfl (lv_at hl 5 rfl) ?_
                      refine lv_iload hx hb dL_changes_493 (lv_at hl 1 rfl) ?_
                      refine g_xcallSH (As := [.ref (x0), .int (iI (uI))]) (rest := []) K (c_L_withdraw (by omega) hI hst (lG_n (by decide)) (lG_n (by decide)) (lG_n (by decide)) hF (uI) ⟨by omega, by omega⟩) (vx_cwSW 2 hts (gd_T gL_L_withdraw) rfl rfl rfl (by decide +kernel) ⟨Nat.le_of_ble_eq_true rfl, Nat.le_of_ble_eq_true rfl⟩) hK hW rfl hl.1 rfl (Nat.le_of_ble_eq_true rfl) dL_changes_495 ⟨by dsimp only; omega, by dsimp only; omega⟩ (fun v_ f H locs hp hW => ?_)
                      obtain ⟨t_68, T_68, ht_68, hT_68, fx_68⟩ : ∃ (t : Int) (T : ST), t = hv (pWith S (uI)).1 (pWith S (uI)).2.1 (-1000001) (-1000003) 0 ∧ T = (pWith S (uI)).2.2 ∧ F_end n S M (S.1 18 (uI) < 4) (4 ≤ S.1 18 (uI)) (uI) t T := ⟨_, _, rfl, rfl, f_withdraw (by omega) hI hk hM hd huI⟩
                      obtain ⟨hpv, hF⟩ := hp
                      rw [← ht_68] at hpv
                      rw [← hT_68] at hF
                      subst hpv
                      unfold F_end at fx_68
                      have hw_68 := fx_68.2.2.1
                      have hI_68 := fx_68.2.2.2.1
                      refine lv_goto (tgt := 507) hx hb dL_changes_498 (by decide) ?_
                      refine lv_istore (lv' := [(10, .int (iI (t_68))), (9, .int (iI (t_32))), (8, .int (iI (uI))), (7, .int (iI (z_5))), (6, .int (iI (z_3))), (5, .int (iI (z_1))), (0, .ref (x0)), (1, .ref (q 0)), (2, .ref (q 5)), (3, .int (iI (x))), (4, .int (iI (y)))]) hx hb dL_changes_507 hl (by decide) rfl (fun ls hl => ?_)
                      refine lv_iload hx hb dL_changes_509 (lv_at hl 5 rfl) ?_
                      refine xi_bipush hx hb dL_changes_511 (by decide) ?_
                      refine xi_icmp_ne (tgt := 530) hx hb ⟨by omega, by omega⟩ ⟨by omega, by omega⟩ dL_changes_513 (by decide) (fun c_69 => ?_) (fun c_69 => ?_)
                      · refine lv_iload hx hb dL_changes_530 (lv_at hl 1 rfl) ?_
                        refine xi_iconst hx hb dL_changes_532 ?_
                        refine xi_icmp_ne (tgt := 540) hx hb ⟨by omega, by omega⟩ ⟨by omega, by omega⟩ dL_changes_533 (by decide) (fun c_70 => ?_) (fun c_70 => ?_)
                        · refine xi_iconst hx hb dL_changes_540 ?_
                          refine lv_istore (lv' := [(11, .int (iI (0))), (10, .int (iI (t_68))), (9, .int (iI (t_32))), (8, .int (iI (uI))), (7, .int (iI (z_5))), (6, .int (iI (z_3))), (5, .int (iI (z_1))), (0, .ref (x0)), (1, .ref (q 0)), (2, .ref (q 5)), (3, .int (iI (x))), (4, .int (iI (y)))]) hx hb dL_changes_541 hl (by decide) rfl (fun ls hl => ?_)
                          refine lv_aload_n hx hb dL_changes_543 rfl (lv_at hl 8 rfl) ?_
                          refine xi_iconst hx hb dL_changes_544 ?_
                          refine l_ild hx hb hK hF hW (i := 0) (by decide) (z := 0) (by omega) (by have e : ((lLen 0 : Nat) : Int) = 4 := rfl; omega) dL_changes_545 ?_
                          refine xi_if_ne (tgt := 564) hx hb ⟨by omega, by omega⟩ dL_changes_546 (by decide) (fun c_71 => ?_) (fun c_71 => ?_)
                          · refine lv_iload hx hb dL_changes_564 (lv_at hl 0 rfl) ?_
                            refine xi_if_eq (tgt := 599) hx hb ⟨by omega, by omega⟩ dL_changes_566 (by decide) (fun c_72 => ?_) (fun c_72 => ?_)
                            · refine lv_iload hx hb dL_changes_599 (lv_at hl 1 rfl) ?_
                              refine xi_ldc hx hb (-1000003) (by decide) hown (hts _ kL_44) dL_changes_601 ?_
                              refine xi_icmp_ne (tgt := 621) hx hb ⟨by omega, by omega⟩ ⟨by omega, by omega⟩ dL_changes_603 (by decide) (fun c_73 => ?_) (fun c_73 => ?_)
                              · refine xi_iconst hx hb dL_changes_621 ?_
                                exfalso; omega
                              · refine lv_aload_n hx hb dL_changes_606 rfl (lv_at hl 7 rfl) ?_
                                refine lv_iload hx hb dL_changes_607 (lv_at hl 3 rfl) ?_
                                refine g_xcallSH (As := [.ref (x0), .int (iI (uI))]) (rest := []) K (c_L_stateOf (by omega) hI_68 hst (lG_n (by decide)) (lG_n (by decide)) (lG_n (by decide)) hF (uI) ⟨by omega, by omega⟩) (vx_cwSW 2 hts (gd_T gL_L_stateOf) rfl rfl rfl (by decide +kernel) ⟨Nat.le_of_ble_eq_true rfl, Nat.le_of_ble_eq_true rfl⟩) hK hW rfl hl.1 rfl (Nat.le_of_ble_eq_true rfl) dL_changes_609 ⟨by dsimp only; omega, by dsimp only; omega⟩ (fun v_ f H locs hp hW => ?_)
                                obtain ⟨t_74, ht_74, fs_74⟩ : ∃ t : Int, t = hv (pStat T_68 (uI)).1 (pStat T_68 (uI)).2.1 (-1000001) 0 0 ∧ F_st T_68 M (uI) t := ⟨_, rfl, f_state hI_68 (by omega) huI⟩
                                obtain ⟨hpv, hF⟩ := hp
                                rw [← ht_74] at hpv
                                rw [stat_S] at hF
                                subst hpv
                                unfold F_st at fs_74
                                refine lv_iload hx hb dL_changes_612 (lv_at hl 2 rfl) ?_
                                refine xi_icmp_ne (tgt := 621) hx hb ⟨by omega, by omega⟩ ⟨by omega, by omega⟩ dL_changes_614 (by decide) (fun c_75 => ?_) (fun c_75 => ?_)
                                · refine xi_iconst hx hb dL_changes_621 ?_
                                  exfalso; omega
                                · refine xi_iconst hx hb dL_changes_617 ?_
                                  refine lv_goto (tgt := 622) hx hb dL_changes_618 (by decide) ?_
                                  exact W.widen (by omega) (by omega) (g_zret hx hb hr (Or.inr rfl) hW ⟨rfl, T_68, _, hF, fx_68.2.2.2⟩ dL_changes_622 hlk)
                            · exfalso
                              omega
                          · refine lv_iload hx hb dL_changes_549 (lv_at hl 1 rfl) ?_
                            refine xi_ldc hx hb (-1000001) (by decide) hown (hts _ kL_18) dL_changes_551 ?_
                            refine xi_icmp_ne (tgt := 560) hx hb ⟨by omega, by omega⟩ ⟨by omega, by omega⟩ dL_changes_553 (by decide) (fun c_76 => ?_) (fun c_76 => ?_)
                            · refine xi_iconst hx hb dL_changes_560 ?_
                              refine lv_goto (tgt := 622) hx hb dL_changes_561 (by decide) ?_
                              exfalso; omega
                            · refine xi_iconst hx hb dL_changes_556 ?_
                              refine lv_goto (tgt := 622) hx hb dL_changes_557 (by decide) ?_
                              exact W.widen (by omega) (by omega) (g_zret hx hb hr (Or.inr rfl) hW ⟨rfl, T_68, _, hF, fx_68.2.2.2⟩ dL_changes_622 hlk)
                        · refine xi_iconst hx hb dL_changes_536 ?_
                          refine lv_goto (tgt := 541) hx hb dL_changes_537 (by decide) ?_
                          refine lv_istore (lv' := [(11, .int (iI (1))), (10, .int (iI (t_68))), (9, .int (iI (t_32))), (8, .int (iI (uI))), (7, .int (iI (z_5))), (6, .int (iI (z_3))), (5, .int (iI (z_1))), (0, .ref (x0)), (1, .ref (q 0)), (2, .ref (q 5)), (3, .int (iI (x))), (4, .int (iI (y)))]) hx hb dL_changes_541 hl (by decide) rfl (fun ls hl => ?_)
                          refine lv_aload_n hx hb dL_changes_543 rfl (lv_at hl 8 rfl) ?_
                          refine xi_iconst hx hb dL_changes_544 ?_
                          refine l_ild hx hb hK hF hW (i := 0) (by decide) (z := 0) (by omega) (by have e : ((lLen 0 : Nat) : Int) = 4 := rfl; omega) dL_changes_545 ?_
                          refine xi_if_ne (tgt := 564) hx hb ⟨by omega, by omega⟩ dL_changes_546 (by decide) (fun c_77 => ?_) (fun c_77 => ?_)
                          · refine lv_iload hx hb dL_changes_564 (lv_at hl 0 rfl) ?_
                            refine xi_if_eq (tgt := 599) hx hb ⟨by omega, by omega⟩ dL_changes_566 (by decide) (fun c_78 => ?_) (fun c_78 => ?_)
                            · exfalso
                              omega
                            · refine lv_iload hx hb dL_changes_569 (lv_at hl 1 rfl) ?_
                              refine xi_iconst hx hb dL_changes_571 ?_
                              refine xi_icmp_eq (tgt := 581) hx hb ⟨by omega, by omega⟩ ⟨by omega, by omega⟩ dL_changes_572 (by decide) (fun c_79 => ?_) (fun c_79 => ?_)
                              · refine lv_aload_n hx hb dL_changes_581 rfl (lv_at hl 7 rfl) ?_
                                refine lv_iload hx hb dL_changes_582 (lv_at hl 3 rfl) ?_
                                refine g_xcallSH (As := [.ref (x0), .int (iI (uI))]) (rest := []) K (c_L_stateOf (by omega) hI_68 hst (lG_n (by decide)) (lG_n (by decide)) (lG_n (by decide)) hF (uI) ⟨by omega, by omega⟩) (vx_cwSW 2 hts (gd_T gL_L_stateOf) rfl rfl rfl (by decide +kernel) ⟨Nat.le_of_ble_eq_true rfl, Nat.le_of_ble_eq_true rfl⟩) hK hW rfl hl.1 rfl (Nat.le_of_ble_eq_true rfl) dL_changes_584 ⟨by dsimp only; omega, by dsimp only; omega⟩ (fun v_ f H locs hp hW => ?_)
                                obtain ⟨t_80, ht_80, fs_80⟩ : ∃ t : Int, t = hv (pStat T_68 (uI)).1 (pStat T_68 (uI)).2.1 (-1000001) 0 0 ∧ F_st T_68 M (uI) t := ⟨_, rfl, f_state hI_68 (by omega) huI⟩
                                obtain ⟨hpv, hF⟩ := hp
                                rw [← ht_80] at hpv
                                rw [stat_S] at hF
                                subst hpv
                                unfold F_st at fs_80
                                refine xi_iconst hx hb dL_changes_587 ?_
                                refine xi_icmp_ne (tgt := 595) hx hb ⟨by omega, by omega⟩ ⟨by omega, by omega⟩ dL_changes_588 (by decide) (fun c_81 => ?_) (fun c_81 => ?_)
                                · refine xi_iconst hx hb dL_changes_595 ?_
                                  refine lv_goto (tgt := 622) hx hb dL_changes_596 (by decide) ?_
                                  exfalso; omega
                                · refine xi_iconst hx hb dL_changes_591 ?_
                                  refine lv_goto (tgt := 622) hx hb dL_changes_592 (by decide) ?_
                                  exact W.widen (by omega) (by omega) (g_zret hx hb hr (Or.inr rfl) hW ⟨rfl, T_68, _, hF, fx_68.2.2.2⟩ dL_changes_622 hlk)
                              · refine lv_iload hx hb dL_changes_575 (lv_at hl 1 rfl) ?_
                                refine xi_iconst hx hb dL_changes_577 ?_
                                refine xi_icmp_ne (tgt := 595) hx hb ⟨by omega, by omega⟩ ⟨by omega, by omega⟩ dL_changes_578 (by decide) (fun c_82 => ?_) (fun c_82 => ?_)
                                · refine xi_iconst hx hb dL_changes_595 ?_
                                  refine lv_goto (tgt := 622) hx hb dL_changes_596 (by decide) ?_
                                  exfalso; omega
                                · refine lv_aload_n hx hb dL_changes_581 rfl (lv_at hl 7 rfl) ?_
                                  refine lv_iload hx hb dL_changes_582 (lv_at hl 3 rfl) ?_
                                  refine g_xcallSH (As := [.ref (x0), .int (iI (uI))]) (rest := []) K (c_L_stateOf (by omega) hI_68 hst (lG_n (by decide)) (lG_n (by decide)) (lG_n (by decide)) hF (uI) ⟨by omega, by omega⟩) (vx_cwSW 2 hts (gd_T gL_L_stateOf) rfl rfl rfl (by decide +kernel) ⟨Nat.le_of_ble_eq_true rfl, Nat.le_of_ble_eq_true rfl⟩) hK hW rfl hl.1 rfl (Nat.le_of_ble_eq_true rfl) dL_changes_584 ⟨by dsimp only; omega, by dsimp only; omega⟩ (fun v_ f H locs hp hW => ?_)
                                  obtain ⟨t_83, ht_83, fs_83⟩ : ∃ t : Int, t = hv (pStat T_68 (uI)).1 (pStat T_68 (uI)).2.1 (-1000001) 0 0 ∧ F_st T_68 M (uI) t := ⟨_, rfl, f_state hI_68 (by omega) huI⟩
                                  obtain ⟨hpv, hF⟩ := hp
                                  rw [← ht_83] at hpv
                                  rw [stat_S] at hF
                                  subst hpv
                                  unfold F_st at fs_83
                                  refine xi_iconst hx hb dL_changes_587 ?_
                                  refine xi_icmp_ne (tgt := 595) hx hb ⟨by omega, by omega⟩ ⟨by omega, by omega⟩ dL_changes_588 (by decide) (fun c_84 => ?_) (fun c_84 => ?_)
                                  · refine xi_iconst hx hb dL_changes_595 ?_
                                    refine lv_goto (tgt := 622) hx hb dL_changes_596 (by decide) ?_
                                    exfalso; omega
                                  · refine xi_iconst hx hb dL_changes_591 ?_
                                    refine lv_goto (tgt := 622) hx hb dL_changes_592 (by decide) ?_
                                    exact W.widen (by omega) (by omega) (g_zret hx hb hr (Or.inr rfl) hW ⟨rfl, T_68, _, hF, fx_68.2.2.2⟩ dL_changes_622 hlk)
                          · refine lv_iload hx hb dL_changes_549 (lv_at hl 1 rfl) ?_
                            refine xi_ldc hx hb (-1000001) (by decide) hown (hts _ kL_18) dL_changes_551 ?_
                            refine xi_icmp_ne (tgt := 560) hx hb ⟨by omega, by omega⟩ ⟨by omega, by omega⟩ dL_changes_553 (by decide) (fun c_85 => ?_) (fun c_85 => ?_)
                            · refine xi_iconst hx hb dL_changes_560 ?_
                              refine lv_goto (tgt := 622) hx hb dL_changes_561 (by decide) ?_
                              exfalso; omega
                            · refine xi_iconst hx hb dL_changes_556 ?_
                              refine lv_goto (tgt := 622) hx hb dL_changes_557 (by decide) ?_
                              exact W.widen (by omega) (by omega) (g_zret hx hb hr (Or.inr rfl) hW ⟨rfl, T_68, _, hF, fx_68.2.2.2⟩ dL_changes_622 hlk)
                      · refine lv_iload hx hb dL_changes_516 (lv_at hl 1 rfl) ?_
                        refine xi_iconst hx hb dL_changes_518 ?_
                        refine xi_icmp_ge (tgt := 526) hx hb ⟨by omega, by omega⟩ ⟨by omega, by omega⟩ dL_changes_519 (by decide) (fun c_86 => ?_) (fun c_86 => ?_)
                        · refine xi_iconst hx hb dL_changes_526 ?_
                          refine lv_goto (tgt := 541) hx hb dL_changes_527 (by decide) ?_
                          refine lv_istore (lv' := [(11, .int (iI (0))), (10, .int (iI (t_68))), (9, .int (iI (t_32))), (8, .int (iI (uI))), (7, .int (iI (z_5))), (6, .int (iI (z_3))), (5, .int (iI (z_1))), (0, .ref (x0)), (1, .ref (q 0)), (2, .ref (q 5)), (3, .int (iI (x))), (4, .int (iI (y)))]) hx hb dL_changes_541 hl (by decide) rfl (fun ls hl => ?_)
                          refine lv_aload_n hx hb dL_changes_543 rfl (lv_at hl 8 rfl) ?_
                          refine xi_iconst hx hb dL_changes_544 ?_
                          refine l_ild hx hb hK hF hW (i := 0) (by decide) (z := 0) (by omega) (by have e : ((lLen 0 : Nat) : Int) = 4 := rfl; omega) dL_changes_545 ?_
                          refine xi_if_ne (tgt := 564) hx hb ⟨by omega, by omega⟩ dL_changes_546 (by decide) (fun c_87 => ?_) (fun c_87 => ?_)
                          · refine lv_iload hx hb dL_changes_564 (lv_at hl 0 rfl) ?_
                            refine xi_if_eq (tgt := 599) hx hb ⟨by omega, by omega⟩ dL_changes_566 (by decide) (fun c_88 => ?_) (fun c_88 => ?_)
                            · refine lv_iload hx hb dL_changes_599 (lv_at hl 1 rfl) ?_
                              refine xi_ldc hx hb (-1000003) (by decide) hown (hts _ kL_44) dL_changes_601 ?_
                              refine xi_icmp_ne (tgt := 621) hx hb ⟨by omega, by omega⟩ ⟨by omega, by omega⟩ dL_changes_603 (by decide) (fun c_89 => ?_) (fun c_89 => ?_)
                              · refine xi_iconst hx hb dL_changes_621 ?_
                                exfalso; omega
                              · refine lv_aload_n hx hb dL_changes_606 rfl (lv_at hl 7 rfl) ?_
                                refine lv_iload hx hb dL_changes_607 (lv_at hl 3 rfl) ?_
                                refine g_xcallSH (As := [.ref (x0), .int (iI (uI))]) (rest := []) K (c_L_stateOf (by omega) hI_68 hst (lG_n (by decide)) (lG_n (by decide)) (lG_n (by decide)) hF (uI) ⟨by omega, by omega⟩) (vx_cwSW 2 hts (gd_T gL_L_stateOf) rfl rfl rfl (by decide +kernel) ⟨Nat.le_of_ble_eq_true rfl, Nat.le_of_ble_eq_true rfl⟩) hK hW rfl hl.1 rfl (Nat.le_of_ble_eq_true rfl) dL_changes_609 ⟨by dsimp only; omega, by dsimp only; omega⟩ (fun v_ f H locs hp hW => ?_)
                                obtain ⟨t_90, ht_90, fs_90⟩ : ∃ t : Int, t = hv (pStat T_68 (uI)).1 (pStat T_68 (uI)).2.1 (-1000001) 0 0 ∧ F_st T_68 M (uI) t := ⟨_, rfl, f_state hI_68 (by omega) huI⟩
                                obtain ⟨hpv, hF⟩ := hp
                                rw [← ht_90] at hpv
                                rw [stat_S] at hF
                                subst hpv
                                unfold F_st at fs_90
                                refine lv_iload hx hb dL_changes_612 (lv_at hl 2 rfl) ?_
                                refine xi_icmp_ne (tgt := 621) hx hb ⟨by omega, by omega⟩ ⟨by omega, by omega⟩ dL_changes_614 (by decide) (fun c_91 => ?_) (fun c_91 => ?_)
                                · refine xi_iconst hx hb dL_changes_621 ?_
                                  exfalso; omega
                                · refine xi_iconst hx hb dL_changes_617 ?_
                                  refine lv_goto (tgt := 622) hx hb dL_changes_618 (by decide) ?_
                                  exact W.widen (by omega) (by omega) (g_zret hx hb hr (Or.inr rfl) hW ⟨rfl, T_68, _, hF, fx_68.2.2.2⟩ dL_changes_622 hlk)
                            · exfalso
                              omega
                          · refine lv_iload hx hb dL_changes_549 (lv_at hl 1 rfl) ?_
                            refine xi_ldc hx hb (-1000001) (by decide) hown (hts _ kL_18) dL_changes_551 ?_
                            refine xi_icmp_ne (tgt := 560) hx hb ⟨by omega, by omega⟩ ⟨by omega, by omega⟩ dL_changes_553 (by decide) (fun c_92 => ?_) (fun c_92 => ?_)
                            · refine xi_iconst hx hb dL_changes_560 ?_
                              refine lv_goto (tgt := 622) hx hb dL_changes_561 (by decide) ?_
                              exfalso; omega
                            · refine xi_iconst hx hb dL_changes_556 ?_
                              refine lv_goto (tgt := 622) hx hb dL_changes_557 (by decide) ?_
                              exact W.widen (by omega) (by omega) (g_zret hx hb hr (Or.inr rfl) hW ⟨rfl, T_68, _, hF, fx_68.2.2.2⟩ dL_changes_622 hlk)
                        · refine xi_iconst hx hb dL_changes_522 ?_
                          refine lv_goto (tgt := 541) hx hb dL_changes_523 (by decide) ?_
                          refine lv_istore (lv' := [(11, .int (iI (1))), (10, .int (iI (t_68))), (9, .int (iI (t_32))), (8, .int (iI (uI))), (7, .int (iI (z_5))), (6, .int (iI (z_3))), (5, .int (iI (z_1))), (0, .ref (x0)), (1, .ref (q 0)), (2, .ref (q 5)), (3, .int (iI (x))), (4, .int (iI (y)))]) hx hb dL_changes_541 hl (by decide) rfl (fun ls hl => ?_)
                          refine lv_aload_n hx hb dL_changes_543 rfl (lv_at hl 8 rfl) ?_
                          refine xi_iconst hx hb dL_changes_544 ?_
                          refine l_ild hx hb hK hF hW (i := 0) (by decide) (z := 0) (by omega) (by have e : ((lLen 0 : Nat) : Int) = 4 := rfl; omega) dL_changes_545 ?_
                          refine xi_if_ne (tgt := 564) hx hb ⟨by omega, by omega⟩ dL_changes_546 (by decide) (fun c_93 => ?_) (fun c_93 => ?_)
                          · refine lv_iload hx hb dL_changes_564 (lv_at hl 0 rfl) ?_
                            refine xi_if_eq (tgt := 599) hx hb ⟨by omega, by omega⟩ dL_changes_566 (by decide) (fun c_94 => ?_) (fun c_94 => ?_)
                            · exfalso
                              omega
                            · refine lv_iload hx hb dL_changes_569 (lv_at hl 1 rfl) ?_
                              refine xi_iconst hx hb dL_changes_571 ?_
                              refine xi_icmp_eq (tgt := 581) hx hb ⟨by omega, by omega⟩ ⟨by omega, by omega⟩ dL_changes_572 (by decide) (fun c_95 => ?_) (fun c_95 => ?_)
                              · refine lv_aload_n hx hb dL_changes_581 rfl (lv_at hl 7 rfl) ?_
                                refine lv_iload hx hb dL_changes_582 (lv_at hl 3 rfl) ?_
                                refine g_xcallSH (As := [.ref (x0), .int (iI (uI))]) (rest := []) K (c_L_stateOf (by omega) hI_68 hst (lG_n (by decide)) (lG_n (by decide)) (lG_n (by decide)) hF (uI) ⟨by omega, by omega⟩) (vx_cwSW 2 hts (gd_T gL_L_stateOf) rfl rfl rfl (by decide +kernel) ⟨Nat.le_of_ble_eq_true rfl, Nat.le_of_ble_eq_true rfl⟩) hK hW rfl hl.1 rfl (Nat.le_of_ble_eq_true rfl) dL_changes_584 ⟨by dsimp only; omega, by dsimp only; omega⟩ (fun v_ f H locs hp hW => ?_)
                                obtain ⟨t_96, ht_96, fs_96⟩ : ∃ t : Int, t = hv (pStat T_68 (uI)).1 (pStat T_68 (uI)).2.1 (-1000001) 0 0 ∧ F_st T_68 M (uI) t := ⟨_, rfl, f_state hI_68 (by omega) huI⟩
                                obtain ⟨hpv, hF⟩ := hp
                                rw [← ht_96] at hpv
                                rw [stat_S] at hF
                                subst hpv
                                unfold F_st at fs_96
                                refine xi_iconst hx hb dL_changes_587 ?_
                                refine xi_icmp_ne (tgt := 595) hx hb ⟨by omega, by omega⟩ ⟨by omega, by omega⟩ dL_changes_588 (by decide) (fun c_97 => ?_) (fun c_97 => ?_)
                                · refine xi_iconst hx hb dL_changes_595 ?_
                                  refine lv_goto (tgt := 622) hx hb dL_changes_596 (by decide) ?_
                                  exfalso; omega
                                · refine xi_iconst hx hb dL_changes_591 ?_
                                  refine lv_goto (tgt := 622) hx hb dL_changes_592 (by decide) ?_
                                  exact W.widen (by omega) (by omega) (g_zret hx hb hr (Or.inr rfl) hW ⟨rfl, T_68, _, hF, fx_68.2.2.2⟩ dL_changes_622 hlk)
                              · refine lv_iload hx hb dL_changes_575 (lv_at hl 1 rfl) ?_
                                refine xi_iconst hx hb dL_changes_577 ?_
                                refine xi_icmp_ne (tgt := 595) hx hb ⟨by omega, by omega⟩ ⟨by omega, by omega⟩ dL_changes_578 (by decide) (fun c_98 => ?_) (fun c_98 => ?_)
                                · refine xi_iconst hx hb dL_changes_595 ?_
                                  refine lv_goto (tgt := 622) hx hb dL_changes_596 (by decide) ?_
                                  exfalso; omega
                                · refine lv_aload_n hx hb dL_changes_581 rfl (lv_at hl 7 rfl) ?_
                                  refine lv_iload hx hb dL_changes_582 (lv_at hl 3 rfl) ?_
                                  refine g_xcallSH (As := [.ref (x0), .int (iI (uI))]) (rest := []) K (c_L_stateOf (by omega) hI_68 hst (lG_n (by decide)) (lG_n (by decide)) (lG_n (by decide)) hF (uI) ⟨by omega, by omega⟩) (vx_cwSW 2 hts (gd_T gL_L_stateOf) rfl rfl rfl (by decide +kernel) ⟨Nat.le_of_ble_eq_true rfl, Nat.le_of_ble_eq_true rfl⟩) hK hW rfl hl.1 rfl (Nat.le_of_ble_eq_true rfl) dL_changes_584 ⟨by dsimp only; omega, by dsimp only; omega⟩ (fun v_ f H locs hp hW => ?_)
                                  obtain ⟨t_99, ht_99, fs_99⟩ : ∃ t : Int, t = hv (pStat T_68 (uI)).1 (pStat T_68 (uI)).2.1 (-1000001) 0 0 ∧ F_st T_68 M (uI) t := ⟨_, rfl, f_state hI_68 (by omega) huI⟩
                                  obtain ⟨hpv, hF⟩ := hp
                                  rw [← ht_99] at hpv
                                  rw [stat_S] at hF
                                  subst hpv
                                  unfold F_st at fs_99
                                  refine xi_iconst hx hb dL_changes_587 ?_
                                  refine xi_icmp_ne (tgt := 595) hx hb ⟨by omega, by omega⟩ ⟨by omega, by omega⟩ dL_changes_588 (by decide) (fun c_100 => ?_) (fun c_100 => ?_)
                                  · refine xi_iconst hx hb dL_changes_595 ?_
                                    refine lv_goto (tgt := 622) hx hb dL_changes_596 (by decide) ?_
                                    exfalso; omega
                                  · refine xi_iconst hx hb dL_changes_591 ?_
                                    refine lv_goto (tgt := 622) hx hb dL_changes_592 (by decide) ?_
                                    exact W.widen (by omega) (by omega) (g_zret hx hb hr (Or.inr rfl) hW ⟨rfl, T_68, _, hF, fx_68.2.2.2⟩ dL_changes_622 hlk)
                          · refine lv_iload hx hb dL_changes_549 (lv_at hl 1 rfl) ?_
                            refine xi_ldc hx hb (-1000001) (by decide) hown (hts _ kL_18) dL_changes_551 ?_
                            refine xi_icmp_ne (tgt := 560) hx hb ⟨by omega, by omega⟩ ⟨by omega, by omega⟩ dL_changes_553 (by decide) (fun c_101 => ?_) (fun c_101 => ?_)
                            · refine xi_iconst hx hb dL_changes_560 ?_
                              refine lv_goto (tgt := 622) hx hb dL_changes_561 (by decide) ?_
                              exfalso; omega
                            · refine xi_iconst hx hb dL_changes_556 ?_
                              refine lv_goto (tgt := 622) hx hb dL_changes_557 (by decide) ?_
                              exact W.widen (by omega) (by omega) (g_zret hx hb hr (Or.inr rfl) hW ⟨rfl, T_68, _, hF, fx_68.2.2.2⟩ dL_changes_622 hlk)
                · refine lv_aload_n hx hb dL_changes_393 rfl (lv_at hl 5 rfl) ?_
                  refine xi_iconst hx hb dL_changes_394 ?_
                  refine l_ild hx hb hK hF hW (i := 0) (by decide) (z := 0) (by omega) (by have e : ((lLen 0 : Nat) : Int) = 4 := rfl; omega) dL_changes_395 ?_
                  have j_102 : ∀ (uO : Int) (f : gF) (H : Heap) (locs : List Loc), (itsI M uO) → wX D cy x0 S (lG cy q M) f → gW D B0 s_ f H locs → W p_ l e_ { frames := 15, cells := 300, slots := 27500, locals := 347 } s_ m_ ([.ref (x0), .ref (q 0), .ref (q 5), .int (iI (x)), .int (iI (y))] : List Value).toArray be_ me_ co_ H locs (0) (0) (MQ be_ (gQ D B0 (fun (r : Option Value) (g_ : gF) => r = some (.int (iI 1)) ∧ ∃ (T M1 : ST), wX D cy x0 T (lG cy q M1) g_ ∧ actN n S T M1)) ([.ref (x0), .ref (q 0), .ref (q 5), .int (iI (x)), .int (iI (y))] : List Value).toArray s_ 300 27500 (fun q : Nat => B0 ≤ q)) (F0 m_ 414 ls [.int (iI (uO))]) := by
                    intro uO f H locs huO hF hW
                    have uOc := huO
                    unfold itsI at uOc
                    refine lv_istore (lv' := [(9, .int (iI (uO))), (8, .int (iI (uI))), (7, .int (iI (z_5))), (6, .int (iI (z_3))), (5, .int (iI (z_1))), (0, .ref (x0)), (1, .ref (q 0)), (2, .ref (q 5)), (3, .int (iI (x))), (4, .int (iI (y)))]) hx hb dL_changes_414 hl (by decide) rfl (fun ls hl => ?_)
                    refine lv_aload_n hx hb dL_changes_416 rfl (lv_at hl 5 rfl) ?_
                    refine lv_iload hx hb dL_changes_417 (lv_at hl 1 rfl) ?_
                    refine lv_iload hx hb dL_changes_419 (lv_at hl 0 rfl) ?_
                    refine g_xcallSH (As := [.ref (x0), .int (iI (uI)), .int (iI (uO))]) (rest := []) K (c_L_join (by omega) hI hst (lG_n (by decide)) (lG_n (by decide)) (lG_n (by decide)) hF (uI) (uO) ⟨by omega, by omega⟩ ⟨by omega, by omega⟩) (vx_cwSW 3 hts (gd_T gL_L_join) rfl rfl rfl (by decide +kernel) ⟨Nat.le_of_ble_eq_true rfl, Nat.le_of_ble_eq_true rfl⟩) hK hW rfl hl.1 rfl (Nat.le_of_ble_eq_true rfl) dL_changes_421 ⟨by dsimp only; omega, by dsimp only; omega⟩ (fun v_ f H locs hp hW => ?_)
                    obtain ⟨t_103, T_103, ht_103, hT_103, fx_103⟩ : ∃ (t : Int) (T : ST), t = hv (pJoin S (uI) (uO)).1 0 (-1000001) (-1000003) 0 ∧ T = (pJoin S (uI) (uO)).2 ∧ F_join n S M (uI) (uO) t T := ⟨_, _, rfl, rfl, f_join (by omega) hI hk hM hd huI huO⟩
                    obtain ⟨hpv, hF⟩ := hp
                    rw [← ht_103] at hpv
                    rw [← hT_103] at hF
                    subst hpv
                    unfold F_join at fx_103
                    have hw_103 := fx_103.2.1
                    have hI_103 := fx_103.2.2.1
                    refine lv_istore (lv' := [(10, .int (iI (t_103))), (9, .int (iI (uO))), (8, .int (iI (uI))), (7, .int (iI (z_5))), (6, .int (iI (z_3))), (5, .int (iI (z_1))), (0, .ref (x0)), (1, .ref (q 0)), (2, .ref (q 5)), (3, .int (iI (x))), (4, .int (iI (y)))]) hx hb dL_changes_424 hl (by decide) rfl (fun ls hl => ?_)
                    refine lv_iload hx hb dL_changes_426 (lv_at hl 0 rfl) ?_
                    refine xi_if_ne (tgt := 446) hx hb ⟨by omega, by omega⟩ dL_changes_428 (by decide) (fun c_104 => ?_) (fun c_104 => ?_)
                    · refine lv_iload hx hb dL_changes_446 (lv_at hl 0 rfl) ?_
                      refine lv_aload_n hx hb dL_changes_448 rfl (lv_at hl 7 rfl) ?_
                      refine xi_iconst hx hb dL_changes_449 ?_
                      refine l_ild hx hb hK hF hW (i := 0) (by decide) (z := 0) (by omega) (by have e : ((lLen 0 : Nat) : Int) = 4 := rfl; omega) dL_changes_450 ?_
                      refine xi_if_ne (tgt := 459) hx hb ⟨by omega, by omega⟩ dL_changes_451 (by decide) (fun c_105 => ?_) (fun c_105 => ?_)
                      · refine xi_ldc hx hb (-1000003) (by decide) hown (hts _ kL_44) dL_changes_459 ?_
                        refine xi_icmp_ne (tgt := 468) hx hb ⟨by omega, by omega⟩ ⟨by omega, by omega⟩ dL_changes_461 (by decide) (fun c_106 => ?_) (fun c_106 => ?_)
                        · refine xi_iconst hx hb dL_changes_468 ?_
                          exfalso; omega
                        · refine xi_iconst hx hb dL_changes_464 ?_
                          refine lv_goto (tgt := 469) hx hb dL_changes_465 (by decide) ?_
                          exact W.widen (by omega) (by omega) (g_zret hx hb hr (Or.inr rfl) hW ⟨rfl, T_103, _, hF, fx_103.2.2⟩ dL_changes_469 hlk)
                      · refine xi_ldc hx hb (-1000001) (by decide) hown (hts _ kL_18) dL_changes_454 ?_
                        refine lv_goto (tgt := 461) hx hb dL_changes_456 (by decide) ?_
                        refine xi_icmp_ne (tgt := 468) hx hb ⟨by omega, by omega⟩ ⟨by omega, by omega⟩ dL_changes_461 (by decide) (fun c_107 => ?_) (fun c_107 => ?_)
                        · refine xi_iconst hx hb dL_changes_468 ?_
                          exfalso; omega
                        · refine xi_iconst hx hb dL_changes_464 ?_
                          refine lv_goto (tgt := 469) hx hb dL_changes_465 (by decide) ?_
                          exact W.widen (by omega) (by omega) (g_zret hx hb hr (Or.inr rfl) hW ⟨rfl, T_103, _, hF, fx_103.2.2⟩ dL_changes_469 hlk)
                    · refine lv_iload hx hb dL_changes_431 (lv_at hl 2 rfl) ?_
                      refine lv_iload hx hb dL_changes_433 (lv_at hl 1 rfl) ?_
                      refine xi_icmp_eq (tgt := 442) hx hb ⟨by omega, by omega⟩ ⟨by omega, by omega⟩ dL_changes_435 (by decide) (fun c_108 => ?_) (fun c_108 => ?_)
                      · refine xi_iconst hx hb dL_changes_442 ?_
                        refine lv_goto (tgt := 469) hx hb dL_changes_443 (by decide) ?_
                        exfalso; omega
                      · refine xi_iconst hx hb dL_changes_438 ?_
                        refine lv_goto (tgt := 469) hx hb dL_changes_439 (by decide) ?_
                        exact W.widen (by omega) (by omega) (g_zret hx hb hr (Or.inr rfl) hW ⟨rfl, T_103, _, hF, fx_103.2.2⟩ dL_changes_469 hlk)
                  refine xi_if_ne (tgt := 403) hx hb ⟨by omega, by omega⟩ dL_changes_396 (by decide) (fun c_109 => ?_) (fun c_109 => ?_)
                  · refine lv_iload hx hb dL_changes_403 (lv_at hl 8 rfl) ?_
                    refine xi_bipush hx hb dL_changes_405 (by decide) ?_
                    refine xi_ishr hx hb dL_changes_407 (fun y_110 hy_110 => ?_)
                    refine lv_aload_n hx hb dL_changes_408 rfl (lv_at hl 5 rfl) ?_
                    refine xi_iconst hx hb dL_changes_409 ?_
                    refine l_ild hx hb hK hF hW (i := 0) (by decide) (z := 0) (by omega) (by have e : ((lLen 0 : Nat) : Int) = 4 := rfl; omega) dL_changes_410 ?_
                    refine g_callS (As := [.int (iI (y_110)), .int (iI (M.1 0 0))]) (rest := []) K (c_L_low (y_110) (M.1 0 0) ⟨by omega, by omega⟩ ⟨by omega, by omega⟩) (va_cwS 2 hts (gd_T gL_L_low) rfl rfl rfl (by decide +kernel) ⟨Nat.le_of_ble_eq_true rfl, Nat.le_of_ble_eq_true rfl⟩) hK hW rfl hl.1 rfl (Nat.le_of_ble_eq_true rfl) dL_changes_411 ⟨by dsimp only; omega, by dsimp only; omega⟩ (fun v_ f_ H locs hp hW => ?_)
                    obtain ⟨z_111, z_111a, z_111b, hpv, hpe⟩ := hp
                    rw [hpe] at hW
                    subst hpv
                    exact j_102 (z_111) f H locs (by unfold itsI; omega) hF hW
                  · refine xi_iconst hx hb dL_changes_399 ?_
                    refine lv_goto (tgt := 414) hx hb dL_changes_400 (by decide) ?_
                    exact j_102 (0) f H locs (by unfold itsI; omega) hF hW
              · refine lv_aload_n hx hb dL_changes_339 rfl (lv_at hl 4 rfl) ?_
                refine lv_iload hx hb dL_changes_340 (lv_at hl 8 rfl) ?_
                refine xi_iconst hx hb dL_changes_342 ?_
                refine g_callS (As := [.int (iI (y)), .int (iI (4))]) (rest := [.ref (x0)]) K (c_L_low (y) (4) ⟨by omega, by omega⟩ ⟨by omega, by omega⟩) (va_cwS 2 hts (gd_T gL_L_low) rfl rfl rfl (by decide +kernel) ⟨Nat.le_of_ble_eq_true rfl, Nat.le_of_ble_eq_true rfl⟩) hK hW rfl hl.1 rfl (Nat.le_of_ble_eq_true rfl) dL_changes_343 ⟨by dsimp only; omega, by dsimp only; omega⟩ (fun v_ f_ H locs hp hW => ?_)
                obtain ⟨z_112, z_112a, z_112b, hpv, hpe⟩ := hp
                rw [hpe] at hW
                subst hpv
                refine lv_iload hx hb dL_changes_346 (lv_at hl 8 rfl) ?_
                refine xi_iconst hx hb dL_changes_348 ?_
                refine xi_ishr hx hb dL_changes_349 (fun y_113 hy_113 => ?_)
                refine xi_iconst hx hb dL_changes_350 ?_
                refine g_callS (As := [.int (iI (y_113)), .int (iI (2))]) (rest := [.int (iI (z_112)), .ref (x0)]) K (c_L_low (y_113) (2) ⟨by omega, by omega⟩ ⟨by omega, by omega⟩) (va_cwS 2 hts (gd_T gL_L_low) rfl rfl rfl (by decide +kernel) ⟨Nat.le_of_ble_eq_true rfl, Nat.le_of_ble_eq_true rfl⟩) hK hW rfl hl.1 rfl (Nat.le_of_ble_eq_true rfl) dL_changes_351 ⟨by dsimp only; omega, by dsimp only; omega⟩ (fun v_ f_ H locs hp hW => ?_)
                obtain ⟨z_114, z_114a, z_114b, hpv, hpe⟩ := hp
                rw [hpe] at hW
                subst hpv
                have j_115 : ∀ (uL : Bool) (f : gF) (H : Heap) (locs : List Loc), (True) → wX D cy x0 S (lG cy q M) f → gW D B0 s_ f H locs → W p_ l e_ { frames := 15, cells := 300, slots := 27500, locals := 347 } s_ m_ ([.ref (x0), .ref (q 0), .ref (q 5), .int (iI (x)), .int (iI (y))] : List Value).toArray be_ me_ co_ H locs (0) (0) (MQ be_ (gQ D B0 (fun (r : Option Value) (g_ : gF) => r = some (.int (iI 1)) ∧ ∃ (T M1 : ST), wX D cy x0 T (lG cy q M1) g_ ∧ actN n S T M1)) ([.ref (x0), .ref (q 0), .ref (q 5), .int (iI (x)), .int (iI (y))] : List Value).toArray s_ 300 27500 (fun q : Nat => B0 ≤ q)) (F0 m_ 362 ls [.int (iI (bI (uL))), .int (iI (z_112)), .ref (x0)]) := by
                  intro uL f H locs huL hF hW
                  refine g_xcallSH (As := [.ref (x0), .int (iI (z_112)), .int (iI (bI (uL)))]) (rest := []) K (c_L_list (by omega) hI hst (lG_n (by decide)) (lG_n (by decide)) (lG_n (by decide)) hF (z_112) (uL) ⟨by omega, by omega⟩) (vx_cwSW 3 hts (gd_T gL_L_list) rfl rfl rfl (by decide +kernel) ⟨Nat.le_of_ble_eq_true rfl, Nat.le_of_ble_eq_true rfl⟩) hK hW rfl hl.1 rfl (Nat.le_of_ble_eq_true rfl) dL_changes_362 ⟨by dsimp only; omega, by dsimp only; omega⟩ (fun v_ f H locs hp hW => ?_)
                  obtain ⟨t_116, T_116, ht_116, hT_116, fx_116⟩ : ∃ (t : Int) (T : ST), t = hv (pList S (z_112) (uL)).1 (pList S (z_112) (uL)).2.1 (-1000001) 0 0 ∧ T = (pList S (z_112) (uL)).2.2 ∧ F_r n S M 0 (M.1 0 0) t T := ⟨_, _, rfl, rfl, f_list (by omega) hI hk hM hd (by omega)⟩
                  obtain ⟨hpv, hF⟩ := hp
                  rw [← ht_116] at hpv
                  rw [← hT_116] at hF
                  subst hpv
                  unfold F_r at fx_116
                  have hw_116 := fx_116.2.2.1
                  have hI_116 := fx_116.2.2.2.1
                  refine lv_istore (lv' := [(9, .int (iI (t_116))), (8, .int (iI (uI))), (7, .int (iI (z_5))), (6, .int (iI (z_3))), (5, .int (iI (z_1))), (0, .ref (x0)), (1, .ref (q 0)), (2, .ref (q 5)), (3, .int (iI (x))), (4, .int (iI (y)))]) hx hb dL_changes_365 hl (by decide) rfl (fun ls hl => ?_)
                  refine lv_iload hx hb dL_changes_367 (lv_at hl 0 rfl) ?_
                  refine xi_if_lt (tgt := 384) hx hb ⟨by omega, by omega⟩ dL_changes_369 (by decide) (fun c_117 => ?_) (fun c_117 => ?_)
                  · refine xi_iconst hx hb dL_changes_384 ?_
                    exfalso; omega
                  · refine lv_iload hx hb dL_changes_372 (lv_at hl 0 rfl) ?_
                    refine lv_aload_n hx hb dL_changes_374 rfl (lv_at hl 6 rfl) ?_
                    refine xi_iconst hx hb dL_changes_375 ?_
                    refine l_ild hx hb hK hF hW (i := 0) (by decide) (z := 0) (by omega) (by have e : ((lLen 0 : Nat) : Int) = 4 := rfl; omega) dL_changes_376 ?_
                    refine xi_icmp_gt (tgt := 384) hx hb ⟨by omega, by omega⟩ ⟨by omega, by omega⟩ dL_changes_377 (by decide) (fun c_118 => ?_) (fun c_118 => ?_)
                    · refine xi_iconst hx hb dL_changes_384 ?_
                      exfalso; omega
                    · refine xi_iconst hx hb dL_changes_380 ?_
                      refine lv_goto (tgt := 385) hx hb dL_changes_381 (by decide) ?_
                      exact W.widen (by omega) (by omega) (g_zret hx hb hr (Or.inr rfl) hW ⟨rfl, T_116, _, hF, fx_116.2.2.2⟩ dL_changes_385 hlk)
                refine xi_if_ne (tgt := 361) hx hb ⟨by omega, by omega⟩ dL_changes_354 (by decide) (fun c_119 => ?_) (fun c_119 => ?_)
                · refine xi_iconst hx hb dL_changes_361 ?_
                  exact j_115 (false) f H locs trivial hF hW
                · refine xi_iconst hx hb dL_changes_357 ?_
                  refine lv_goto (tgt := 362) hx hb dL_changes_358 (by decide) ?_
                  exact j_115 (true) f H locs trivial hF hW
            · refine lv_aload_n hx hb dL_changes_255 rfl (lv_at hl 5 rfl) ?_
              refine xi_iconst hx hb dL_changes_256 ?_
              refine l_ild hx hb hK hF hW (i := 0) (by decide) (z := 1) (by omega) (by have e : ((lLen 0 : Nat) : Int) = 4 := rfl; omega) dL_changes_257 ?_
              refine lv_iload hx hb dL_changes_258 (lv_at hl 8 rfl) ?_
              refine xi_bipush hx hb dL_changes_260 (by decide) ?_
              refine g_callS (As := [.int (iI (y)), .int (iI (6))]) (rest := [.int (iI (M.1 0 1))]) K (c_L_low (y) (6) ⟨by omega, by omega⟩ ⟨by omega, by omega⟩) (va_cwS 2 hts (gd_T gL_L_low) rfl rfl rfl (by decide +kernel) ⟨Nat.le_of_ble_eq_true rfl, Nat.le_of_ble_eq_true rfl⟩) hK hW rfl hl.1 rfl (Nat.le_of_ble_eq_true rfl) dL_changes_262 ⟨by dsimp only; omega, by dsimp only; omega⟩ (fun v_ f_ H locs hp hW => ?_)
              obtain ⟨z_120, z_120a, z_120b, hpv, hpe⟩ := hp
              rw [hpe] at hW
              subst hpv
              refine xi_iadd hx hb dL_changes_265 ?_
              refine lv_istore (lv' := [(9, .int (iI ((M.1 0 1) + z_120))), (8, .int (iI (uI))), (7, .int (iI (z_5))), (6, .int (iI (z_3))), (5, .int (iI (z_1))), (0, .ref (x0)), (1, .ref (q 0)), (2, .ref (q 5)), (3, .int (iI (x))), (4, .int (iI (y)))]) hx hb dL_changes_266 hl (by decide) rfl (fun ls hl => ?_)
              refine lv_iload hx hb dL_changes_268 (lv_at hl 9 rfl) ?_
              refine xi_iconst hx hb dL_changes_270 ?_
              refine xi_ishr hx hb dL_changes_271 (fun y_121 hy_121 => ?_)
              refine xi_iconst hx hb dL_changes_272 ?_
              refine g_callS (As := [.int (iI (y_121)), .int (iI (2))]) (rest := []) K (c_L_low (y_121) (2) ⟨by omega, by omega⟩ ⟨by omega, by omega⟩) (va_cwS 2 hts (gd_T gL_L_low) rfl rfl rfl (by decide +kernel) ⟨Nat.le_of_ble_eq_true rfl, Nat.le_of_ble_eq_true rfl⟩) hK hW rfl hl.1 rfl (Nat.le_of_ble_eq_true rfl) dL_changes_273 ⟨by dsimp only; omega, by dsimp only; omega⟩ (fun v_ f_ H locs hp hW => ?_)
              obtain ⟨z_122, z_122a, z_122b, hpv, hpe⟩ := hp
              rw [hpe] at hW
              subst hpv
              have j_123 : ∀ (uH : Bool) (f : gF) (H : Heap) (locs : List Loc), (True) → wX D cy x0 S (lG cy q M) f → gW D B0 s_ f H locs → W p_ l e_ { frames := 15, cells := 300, slots := 27500, locals := 347 } s_ m_ ([.ref (x0), .ref (q 0), .ref (q 5), .int (iI (x)), .int (iI (y))] : List Value).toArray be_ me_ co_ H locs (0) (0) (MQ be_ (gQ D B0 (fun (r : Option Value) (g_ : gF) => r = some (.int (iI 1)) ∧ ∃ (T M1 : ST), wX D cy x0 T (lG cy q M1) g_ ∧ actN n S T M1)) ([.ref (x0), .ref (q 0), .ref (q 5), .int (iI (x)), .int (iI (y))] : List Value).toArray s_ 300 27500 (fun q : Nat => B0 ≤ q)) (F0 m_ 284 ls [.int (iI (bI (uH)))]) := by
                intro uH f H locs huH hF hW
                refine lv_istore (lv' := [(10, .int (iI (bI (uH)))), (9, .int (iI ((M.1 0 1) + z_120))), (8, .int (iI (uI))), (7, .int (iI (z_5))), (6, .int (iI (z_3))), (5, .int (iI (z_1))), (0, .ref (x0)), (1, .ref (q 0)), (2, .ref (q 5)), (3, .int (iI (x))), (4, .int (iI (y)))]) hx hb dL_changes_284 hl (by decide) rfl (fun ls hl => ?_)
                refine lv_iload hx hb dL_changes_286 (lv_at hl 1 rfl) ?_
                refine xi_sipush hx hb dL_changes_288 (by decide) ?_
                refine xi_icmp_gt (tgt := 326) hx hb ⟨by omega, by omega⟩ ⟨by omega, by omega⟩ dL_changes_291 (by decide) (fun c_124 => ?_) (fun c_124 => ?_)
                · refine xi_iconst hx hb dL_changes_326 ?_
                  refine lv_goto (tgt := 331) hx hb dL_changes_327 (by decide) ?_
                  exact W.widen (by omega) (by omega) (g_zret hx hb hr (Or.inr rfl) hW ⟨rfl, S, M, hF, act_id hI hk hM hd⟩ dL_changes_331 hlk)
                · refine lv_aload_n hx hb dL_changes_294 rfl (lv_at hl 6 rfl) ?_
                  refine lv_iload hx hb dL_changes_295 (lv_at hl 3 rfl) ?_
                  refine lv_iload hx hb dL_changes_297 (lv_at hl 1 rfl) ?_
                  refine lv_iload hx hb dL_changes_299 (lv_at hl 0 rfl) ?_
                  refine g_xcallSH (As := [.ref (x0), .int (iI (z_5)), .int (iI ((M.1 0 1) + z_120)), .int (iI (bI (uH)))]) (rest := []) K (c_L_holiday (by omega) hI hst (lG_n (by decide)) (lG_n (by decide)) (lG_n (by decide)) hF (z_5) ((M.1 0 1) + z_120) (uH) ⟨by omega, by omega⟩ ⟨by omega, by omega⟩) (vx_cwSW 4 hts (gd_T gL_L_holiday) rfl rfl rfl (by decide +kernel) ⟨Nat.le_of_ble_eq_true rfl, Nat.le_of_ble_eq_true rfl⟩) hK hW rfl hl.1 rfl (Nat.le_of_ble_eq_true rfl) dL_changes_301 ⟨by dsimp only; omega, by dsimp only; omega⟩ (fun v_ f H locs hp hW => ?_)
                  obtain ⟨t_125, T_125, ht_125, hT_125, fx_125⟩ : ∃ (t : Int) (T : ST), t = hv (pHoli S (z_5) ((M.1 0 1) + z_120) (uH)).1 (if (iI (pHoli S (z_5) ((M.1 0 1) + z_120) (uH)).2.1) = 0 then 0 else 1) (-1000001) (-1000002) 0 ∧ T = (pHoli S (z_5) ((M.1 0 1) + z_120) (uH)).2.2 ∧ F_hol n S M (uH) ((M.1 0 1) + z_120) t T := ⟨_, _, rfl, rfl, f_holiday (by omega) hI hk hM hd (by omega) (by omega)⟩
                  obtain ⟨hpv, hF⟩ := hp
                  rw [← ht_125] at hpv
                  rw [← hT_125] at hF
                  subst hpv
                  unfold F_hol at fx_125
                  have hw_125 := fx_125.2.1
                  have hI_125 := fx_125.2.2.1
                  refine lv_iload hx hb dL_changes_304 (lv_at hl 0 rfl) ?_
                  refine xi_ifb_ne (tgt := 318) hx hb dL_changes_306 (by decide) (fun c_126 => ?_) (fun c_126 => ?_)
                  · refine xi_iconst hx hb dL_changes_318 ?_
                    refine lv_goto (tgt := 323) hx hb dL_changes_319 (by decide) ?_
                    refine xi_icmp_ne (tgt := 330) hx hb ⟨by omega, by omega⟩ ⟨by omega, by omega⟩ dL_changes_323 (by decide) (fun c_127 => ?_) (fun c_127 => ?_)
                    · refine xi_iconst hx hb dL_changes_330 ?_
                      exfalso; rcases fx_125.1 with ⟨h1, h2⟩ | ⟨h1, h2⟩ <;> first | omega | (rw [h1] at c_126; exact Bool.noConfusion c_126)
                    · refine xi_iconst hx hb dL_changes_326 ?_
                      refine lv_goto (tgt := 331) hx hb dL_changes_327 (by decide) ?_
                      exact W.widen (by omega) (by omega) (g_zret hx hb hr (Or.inr rfl) hW ⟨rfl, T_125, _, hF, fx_125.2.2⟩ dL_changes_331 hlk)
                  · refine lv_iload hx hb dL_changes_309 (lv_at hl 1 rfl) ?_
                    refine xi_bipush hx hb dL_changes_311 (by decide) ?_
                    refine xi_irem hx hb ⟨by omega, by omega⟩ ⟨by omega, by omega⟩ dL_changes_313 ?_
                    refine xi_iconst hx hb dL_changes_314 ?_
                    refine xi_icmp_le (tgt := 322) hx hb ⟨by omega, by omega⟩ ⟨by omega, by omega⟩ dL_changes_315 (by decide) (fun c_128 => ?_) (fun c_128 => ?_)
                    · refine xi_iconst hx hb dL_changes_322 ?_
                      refine xi_icmp_ne (tgt := 330) hx hb ⟨by omega, by omega⟩ ⟨by omega, by omega⟩ dL_changes_323 (by decide) (fun c_129 => ?_) (fun c_129 => ?_)
                      · refine xi_iconst hx hb dL_changes_330 ?_
                        exfalso; rcases fx_125.1 with ⟨h1, h2⟩ | ⟨h1, h2⟩ <;> first | omega | (rw [h1] at c_126; exact Bool.noConfusion c_126)
                      · refine xi_iconst hx hb dL_changes_326 ?_
                        refine lv_goto (tgt := 331) hx hb dL_changes_327 (by decide) ?_
                        exact W.widen (by omega) (by omega) (g_zret hx hb hr (Or.inr rfl) hW ⟨rfl, T_125, _, hF, fx_125.2.2⟩ dL_changes_331 hlk)
                    · refine xi_iconst hx hb dL_changes_318 ?_
                      refine lv_goto (tgt := 323) hx hb dL_changes_319 (by decide) ?_
                      refine xi_icmp_ne (tgt := 330) hx hb ⟨by omega, by omega⟩ ⟨by omega, by omega⟩ dL_changes_323 (by decide) (fun c_130 => ?_) (fun c_130 => ?_)
                      · refine xi_iconst hx hb dL_changes_330 ?_
                        exfalso; rcases fx_125.1 with ⟨h1, h2⟩ | ⟨h1, h2⟩ <;> first | omega | (rw [h1] at c_126; exact Bool.noConfusion c_126)
                      · refine xi_iconst hx hb dL_changes_326 ?_
                        refine lv_goto (tgt := 331) hx hb dL_changes_327 (by decide) ?_
                        exact W.widen (by omega) (by omega) (g_zret hx hb hr (Or.inr rfl) hW ⟨rfl, T_125, _, hF, fx_125.2.2⟩ dL_changes_331 hlk)
              refine xi_if_ne (tgt := 283) hx hb ⟨by omega, by omega⟩ dL_changes_276 (by decide) (fun c_131 => ?_) (fun c_131 => ?_)
              · refine xi_iconst hx hb dL_changes_283 ?_
                exact j_123 (false) f H locs trivial hF hW
              · refine xi_iconst hx hb dL_changes_279 ?_
                refine lv_goto (tgt := 284) hx hb dL_changes_280 (by decide) ?_
                exact j_123 (true) f H locs trivial hF hW
          · refine lv_aload_n hx hb dL_changes_210 rfl (lv_at hl 4 rfl) ?_
            refine lv_iload hx hb dL_changes_211 (lv_at hl 2 rfl) ?_
            refine lv_iload hx hb dL_changes_213 (lv_at hl 8 rfl) ?_
            refine xi_iconst hx hb dL_changes_215 ?_
            refine g_callS (As := [.int (iI (y)), .int (iI (3))]) (rest := [.int (iI (z_3)), .ref (x0)]) K (c_L_low (y) (3) ⟨by omega, by omega⟩ ⟨by omega, by omega⟩) (va_cwS 2 hts (gd_T gL_L_low) rfl rfl rfl (by decide +kernel) ⟨Nat.le_of_ble_eq_true rfl, Nat.le_of_ble_eq_true rfl⟩) hK hW rfl hl.1 rfl (Nat.le_of_ble_eq_true rfl) dL_changes_216 ⟨by dsimp only; omega, by dsimp only; omega⟩ (fun v_ f_ H locs hp hW => ?_)
            obtain ⟨z_132, z_132a, z_132b, hpv, hpe⟩ := hp
            rw [hpe] at hW
            subst hpv
            have j_133 : ∀ (uA : Bool) (f : gF) (H : Heap) (locs : List Loc), (True) → wX D cy x0 S (lG cy q M) f → gW D B0 s_ f H locs → W p_ l e_ { frames := 15, cells := 300, slots := 27500, locals := 347 } s_ m_ ([.ref (x0), .ref (q 0), .ref (q 5), .int (iI (x)), .int (iI (y))] : List Value).toArray be_ me_ co_ H locs (0) (0) (MQ be_ (gQ D B0 (fun (r : Option Value) (g_ : gF) => r = some (.int (iI 1)) ∧ ∃ (T M1 : ST), wX D cy x0 T (lG cy q M1) g_ ∧ actN n S T M1)) ([.ref (x0), .ref (q 0), .ref (q 5), .int (iI (x)), .int (iI (y))] : List Value).toArray s_ 300 27500 (fun q : Nat => B0 ≤ q)) (F0 m_ 227 ls [.int (iI (bI (uA))), .int (iI (z_3)), .ref (x0)]) := by
              intro uA f H locs huA hF hW
              refine g_xcallSH (As := [.ref (x0), .int (iI (z_3)), .int (iI (bI (uA)))]) (rest := []) K (c_L_out (by omega) hI hst (lG_n (by decide)) (lG_n (by decide)) (lG_n (by decide)) hF (z_3) (uA) ⟨by omega, by omega⟩) (vx_cwSW 3 hts (gd_T gL_L_out) rfl rfl rfl (by decide +kernel) ⟨Nat.le_of_ble_eq_true rfl, Nat.le_of_ble_eq_true rfl⟩) hK hW rfl hl.1 rfl (Nat.le_of_ble_eq_true rfl) dL_changes_227 ⟨by dsimp only; omega, by dsimp only; omega⟩ (fun v_ f H locs hp hW => ?_)
              obtain ⟨t_134, T_134, ht_134, hT_134, fx_134⟩ : ∃ (t : Int) (T : ST), t = hv (pOut S (z_3) (uA)).1 (if (iI (pOut S (z_3) (uA)).2.1) = 0 then 0 else 1) (-1000001) 0 0 ∧ T = (pOut S (z_3) (uA)).2.2 ∧ F_r n S M 0 1 t T := ⟨_, _, rfl, rfl, f_out (by omega) hI hk hM hd (by omega)⟩
              obtain ⟨hpv, hF⟩ := hp
              rw [← ht_134] at hpv
              rw [← hT_134] at hF
              subst hpv
              unfold F_r at fx_134
              have hw_134 := fx_134.2.2.1
              have hI_134 := fx_134.2.2.2.1
              refine lv_istore (lv' := [(9, .int (iI (t_134))), (8, .int (iI (uI))), (7, .int (iI (z_5))), (6, .int (iI (z_3))), (5, .int (iI (z_1))), (0, .ref (x0)), (1, .ref (q 0)), (2, .ref (q 5)), (3, .int (iI (x))), (4, .int (iI (y)))]) hx hb dL_changes_230 hl (by decide) rfl (fun ls hl => ?_)
              refine lv_iload hx hb dL_changes_232 (lv_at hl 0 rfl) ?_
              refine xi_if_eq (tgt := 243) hx hb ⟨by omega, by omega⟩ dL_changes_234 (by decide) (fun c_135 => ?_) (fun c_135 => ?_)
              · refine xi_iconst hx hb dL_changes_243 ?_
                refine lv_goto (tgt := 248) hx hb dL_changes_244 (by decide) ?_
                exact W.widen (by omega) (by omega) (g_zret hx hb hr (Or.inr rfl) hW ⟨rfl, T_134, _, hF, fx_134.2.2.2⟩ dL_changes_248 hlk)
              · refine lv_iload hx hb dL_changes_237 (lv_at hl 0 rfl) ?_
                refine xi_iconst hx hb dL_changes_239 ?_
                refine xi_icmp_ne (tgt := 247) hx hb ⟨by omega, by omega⟩ ⟨by omega, by omega⟩ dL_changes_240 (by decide) (fun c_136 => ?_) (fun c_136 => ?_)
                · refine xi_iconst hx hb dL_changes_247 ?_
                  exfalso; omega
                · refine xi_iconst hx hb dL_changes_243 ?_
                  refine lv_goto (tgt := 248) hx hb dL_changes_244 (by decide) ?_
                  exact W.widen (by omega) (by omega) (g_zret hx hb hr (Or.inr rfl) hW ⟨rfl, T_134, _, hF, fx_134.2.2.2⟩ dL_changes_248 hlk)
            refine xi_if_ne (tgt := 226) hx hb ⟨by omega, by omega⟩ dL_changes_219 (by decide) (fun c_137 => ?_) (fun c_137 => ?_)
            · refine xi_iconst hx hb dL_changes_226 ?_
              exact j_133 (false) f H locs trivial hF hW
            · refine xi_iconst hx hb dL_changes_222 ?_
              refine lv_goto (tgt := 227) hx hb dL_changes_223 (by decide) ?_
              exact j_133 (true) f H locs trivial hF hW
        · refine lv_aload_n hx hb dL_changes_150 rfl (lv_at hl 4 rfl) ?_
          refine lv_iload hx hb dL_changes_151 (lv_at hl 2 rfl) ?_
          refine lv_iload hx hb dL_changes_153 (lv_at hl 2 rfl) ?_
          refine xi_iconst hx hb dL_changes_155 ?_
          refine xi_iadd hx hb dL_changes_156 ?_
          refine lv_iload hx hb dL_changes_157 (lv_at hl 8 rfl) ?_
          refine xi_iconst hx hb dL_changes_159 ?_
          refine g_callS (As := [.int (iI (y)), .int (iI (5))]) (rest := [.int (iI (z_3 + 1)), .int (iI (z_3)), .ref (x0)]) K (c_L_low (y) (5) ⟨by omega, by omega⟩ ⟨by omega, by omega⟩) (va_cwS 2 hts (gd_T gL_L_low) rfl rfl rfl (by decide +kernel) ⟨Nat.le_of_ble_eq_true rfl, Nat.le_of_ble_eq_true rfl⟩) hK hW rfl hl.1 rfl (Nat.le_of_ble_eq_true rfl) dL_changes_160 ⟨by dsimp only; omega, by dsimp only; omega⟩ (fun v_ f_ H locs hp hW => ?_)
          obtain ⟨z_138, z_138a, z_138b, hpv, hpe⟩ := hp
          rw [hpe] at hW
          subst hpv
          refine xi_iadd hx hb dL_changes_163 ?_
          refine xi_bipush hx hb dL_changes_164 (by decide) ?_
          refine xi_irem hx hb ⟨by omega, by omega⟩ ⟨by omega, by omega⟩ dL_changes_166 ?_
          refine lv_iload hx hb dL_changes_167 (lv_at hl 1 rfl) ?_
          refine lv_iload hx hb dL_changes_169 (lv_at hl 8 rfl) ?_
          refine xi_iconst hx hb dL_changes_171 ?_
          refine xi_ishr hx hb dL_changes_172 (fun y_139 hy_139 => ?_)
          refine xi_bipush hx hb dL_changes_173 (by decide) ?_
          refine g_callS (As := [.int (iI (y_139)), .int (iI (80))]) (rest := [.int (iI (z_5)), .int (iI (((z_3 + 1) + z_138) % 6)), .int (iI (z_3)), .ref (x0)]) K (c_L_low (y_139) (80) ⟨by omega, by omega⟩ ⟨by omega, by omega⟩) (va_cwS 2 hts (gd_T gL_L_low) rfl rfl rfl (by decide +kernel) ⟨Nat.le_of_ble_eq_true rfl, Nat.le_of_ble_eq_true rfl⟩) hK hW rfl hl.1 rfl (Nat.le_of_ble_eq_true rfl) dL_changes_175 ⟨by dsimp only; omega, by dsimp only; omega⟩ (fun v_ f_ H locs hp hW => ?_)
          obtain ⟨z_140, z_140a, z_140b, hpv, hpe⟩ := hp
          rw [hpe] at hW
          subst hpv
          refine xi_iconst hx hb dL_changes_178 ?_
          refine xi_isub hx hb dL_changes_179 ?_
          refine g_xcallSH (As := [.ref (x0), .int (iI (z_3)), .int (iI (((z_3 + 1) + z_138) % 6)), .int (iI (z_5)), .int (iI (z_140 - 1))]) (rest := []) K (c_L_limit (by omega) hI hst (lG_n (by decide)) (lG_n (by decide)) (lG_n (by decide)) hF (z_3) (((z_3 + 1) + z_138) % 6) (z_5) (z_140 - 1) ⟨by omega, by omega⟩ ⟨by omega, by omega⟩ ⟨by omega, by omega⟩ ⟨by omega, by omega⟩) (vx_cwSW 5 hts (gd_T gL_L_limit) rfl rfl rfl (by decide +kernel) ⟨Nat.le_of_ble_eq_true rfl, Nat.le_of_ble_eq_true rfl⟩) hK hW rfl hl.1 rfl (Nat.le_of_ble_eq_true rfl) dL_changes_180 ⟨by dsimp only; omega, by dsimp only; omega⟩ (fun v_ f H locs hp hW => ?_)
          obtain ⟨t_141, T_141, ht_141, hT_141, fx_141⟩ : ∃ (t : Int) (T : ST), t = hv (pLimit S (z_3) (((z_3 + 1) + z_138) % 6) (z_5) (z_140 - 1)).1 (pLimit S (z_3) (((z_3 + 1) + z_138) % 6) (z_5) (z_140 - 1)).2.1 (-1000001) (-1000002) 0 ∧ T = (pLimit S (z_3) (((z_3 + 1) + z_138) % 6) (z_5) (z_140 - 1)).2.2 ∧ F_r n S M (-1) 78 t T := ⟨_, _, rfl, rfl, f_limit (by omega) hI hk hM hd (by omega) (by omega) (by omega) (by omega) (by omega)⟩
          obtain ⟨hpv, hF⟩ := hp
          rw [← ht_141] at hpv
          rw [← hT_141] at hF
          subst hpv
          unfold F_r at fx_141
          have hw_141 := fx_141.2.2.1
          have hI_141 := fx_141.2.2.2.1
          refine lv_istore (lv' := [(9, .int (iI (t_141))), (8, .int (iI (uI))), (7, .int (iI (z_5))), (6, .int (iI (z_3))), (5, .int (iI (z_1))), (0, .ref (x0)), (1, .ref (q 0)), (2, .ref (q 5)), (3, .int (iI (x))), (4, .int (iI (y)))]) hx hb dL_changes_183 hl (by decide) rfl (fun ls hl => ?_)
          refine lv_iload hx hb dL_changes_185 (lv_at hl 0 rfl) ?_
          refine xi_iconst hx hb dL_changes_187 ?_
          refine xi_icmp_lt (tgt := 202) hx hb ⟨by omega, by omega⟩ ⟨by omega, by omega⟩ dL_changes_188 (by decide) (fun c_142 => ?_) (fun c_142 => ?_)
          · refine xi_iconst hx hb dL_changes_202 ?_
            exfalso; omega
          · refine lv_iload hx hb dL_changes_191 (lv_at hl 0 rfl) ?_
            refine xi_bipush hx hb dL_changes_193 (by decide) ?_
            refine xi_icmp_ge (tgt := 202) hx hb ⟨by omega, by omega⟩ ⟨by omega, by omega⟩ dL_changes_195 (by decide) (fun c_143 => ?_) (fun c_143 => ?_)
            · refine xi_iconst hx hb dL_changes_202 ?_
              exfalso; omega
            · refine xi_iconst hx hb dL_changes_198 ?_
              refine lv_goto (tgt := 203) hx hb dL_changes_199 (by decide) ?_
              exact W.widen (by omega) (by omega) (g_zret hx hb hr (Or.inr rfl) hW ⟨rfl, T_141, _, hF, fx_141.2.2.2⟩ dL_changes_203 hlk)
      · refine lv_aload_n hx hb dL_changes_109 rfl (lv_at hl 4 rfl) ?_
        refine lv_iload hx hb dL_changes_110 (lv_at hl 2 rfl) ?_
        refine lv_iload hx hb dL_changes_112 (lv_at hl 1 rfl) ?_
        refine lv_iload hx hb dL_changes_114 (lv_at hl 8 rfl) ?_
        refine xi_bipush hx hb dL_changes_116 (by decide) ?_
        refine g_callS (As := [.int (iI (y)), .int (iI (60))]) (rest := [.int (iI (z_5)), .int (iI (z_3)), .ref (x0)]) K (c_L_low (y) (60) ⟨by omega, by omega⟩ ⟨by omega, by omega⟩) (va_cwS 2 hts (gd_T gL_L_low) rfl rfl rfl (by decide +kernel) ⟨Nat.le_of_ble_eq_true rfl, Nat.le_of_ble_eq_true rfl⟩) hK hW rfl hl.1 rfl (Nat.le_of_ble_eq_true rfl) dL_changes_118 ⟨by dsimp only; omega, by dsimp only; omega⟩ (fun v_ f_ H locs hp hW => ?_)
        obtain ⟨z_144, z_144a, z_144b, hpv, hpe⟩ := hp
        rw [hpe] at hW
        subst hpv
        refine g_xcallSH (As := [.ref (x0), .int (iI (z_3)), .int (iI (z_5)), .int (iI (z_144))]) (rest := []) K (c_L_line (by omega) hI hst (lG_n (by decide)) (lG_n (by decide)) (lG_n (by decide)) hF (z_3) (z_5) (z_144) ⟨by omega, by omega⟩ ⟨by omega, by omega⟩ ⟨by omega, by omega⟩) (vx_cwSW 4 hts (gd_T gL_L_line) rfl rfl rfl (by decide +kernel) ⟨Nat.le_of_ble_eq_true rfl, Nat.le_of_ble_eq_true rfl⟩) hK hW rfl hl.1 rfl (Nat.le_of_ble_eq_true rfl) dL_changes_121 ⟨by dsimp only; omega, by dsimp only; omega⟩ (fun v_ f H locs hp hW => ?_)
        obtain ⟨t_145, T_145, ht_145, hT_145, fx_145⟩ : ∃ (t : Int) (T : ST), t = hv (pLine S (z_3) (z_5) (z_144)).1 (pLine S (z_3) (z_5) (z_144)).2.1 (-1000001) (-1000002) 0 ∧ T = (pLine S (z_3) (z_5) (z_144)).2.2 ∧ F_r n S M 0 59 t T := ⟨_, _, rfl, rfl, f_line (by omega) hI hk hM hd (by omega) (by omega) (by omega)⟩
        obtain ⟨hpv, hF⟩ := hp
        rw [← ht_145] at hpv
        rw [← hT_145] at hF
        subst hpv
        unfold F_r at fx_145
        have hw_145 := fx_145.2.2.1
        have hI_145 := fx_145.2.2.2.1
        refine lv_istore (lv' := [(9, .int (iI (t_145))), (8, .int (iI (uI))), (7, .int (iI (z_5))), (6, .int (iI (z_3))), (5, .int (iI (z_1))), (0, .ref (x0)), (1, .ref (q 0)), (2, .ref (q 5)), (3, .int (iI (x))), (4, .int (iI (y)))]) hx hb dL_changes_124 hl (by decide) rfl (fun ls hl => ?_)
        refine lv_iload hx hb dL_changes_126 (lv_at hl 0 rfl) ?_
        refine xi_if_lt (tgt := 142) hx hb ⟨by omega, by omega⟩ dL_changes_128 (by decide) (fun c_146 => ?_) (fun c_146 => ?_)
        · refine xi_iconst hx hb dL_changes_142 ?_
          exfalso; omega
        · refine lv_iload hx hb dL_changes_131 (lv_at hl 0 rfl) ?_
          refine xi_bipush hx hb dL_changes_133 (by decide) ?_
          refine xi_icmp_ge (tgt := 142) hx hb ⟨by omega, by omega⟩ ⟨by omega, by omega⟩ dL_changes_135 (by decide) (fun c_147 => ?_) (fun c_147 => ?_)
          · refine xi_iconst hx hb dL_changes_142 ?_
            exfalso; omega
          · refine xi_iconst hx hb dL_changes_138 ?_
            refine lv_goto (tgt := 143) hx hb dL_changes_139 (by decide) ?_
            exact W.widen (by omega) (by omega) (g_zret hx hb hr (Or.inr rfl) hW ⟨rfl, T_145, _, hF, fx_145.2.2.2⟩ dL_changes_143 hlk)
    · refine xi_iconst hx hb dL_changes_54 ?_
      refine lv_iload hx hb dL_changes_55 (lv_at hl 8 rfl) ?_
      refine xi_bipush hx hb dL_changes_57 (by decide) ?_
      refine g_callS (As := [.int (iI (y)), .int (iI (60))]) (rest := [.int (iI (1))]) K (c_L_low (y) (60) ⟨by omega, by omega⟩ ⟨by omega, by omega⟩) (va_cwS 2 hts (gd_T gL_L_low) rfl rfl rfl (by decide +kernel) ⟨Nat.le_of_ble_eq_true rfl, Nat.le_of_ble_eq_true rfl⟩) hK hW rfl hl.1 rfl (Nat.le_of_ble_eq_true rfl) dL_changes_59 ⟨by dsimp only; omega, by dsimp only; omega⟩ (fun v_ f_ H locs hp hW => ?_)
      obtain ⟨z_148, z_148a, z_148b, hpv, hpe⟩ := hp
      rw [hpe] at hW
      subst hpv
      refine xi_iadd hx hb dL_changes_62 ?_
      refine lv_istore (lv' := [(9, .int (iI (1 + z_148))), (8, .int (iI (uI))), (7, .int (iI (z_5))), (6, .int (iI (z_3))), (5, .int (iI (z_1))), (0, .ref (x0)), (1, .ref (q 0)), (2, .ref (q 5)), (3, .int (iI (x))), (4, .int (iI (y)))]) hx hb dL_changes_63 hl (by decide) rfl (fun ls hl => ?_)
      refine lv_aload_n hx hb dL_changes_65 rfl (lv_at hl 7 rfl) ?_
      refine lv_iload hx hb dL_changes_66 (lv_at hl 2 rfl) ?_
      refine lv_dup2_11 hx hb dL_changes_68 rfl rfl ?_
      refine l_lld hx hb hK hF hW (z := z_5) (by omega) (by omega) dL_changes_69 ?_
      refine lv_iload hx hb dL_changes_70 (lv_at hl 0 rfl) ?_
      refine xi_i2l hx hb ⟨by omega, by omega⟩ dL_changes_72 ?_
      refine lv_ladd hx hb dL_changes_73 ?_
      refine l_lst hx hb hK hF hW (z := z_5) (v := (M.2 0 z_5) + (Int64.ofInt (1 + z_148))) (by omega) (by omega) dL_changes_74 (fun f H locs hF hW => ?_)
      refine lv_aload_n hx hb dL_changes_75 rfl (lv_at hl 5 rfl) ?_
      refine lv_iload hx hb dL_changes_76 (lv_at hl 3 rfl) ?_
      refine lv_iload hx hb dL_changes_78 (lv_at hl 2 rfl) ?_
      refine lv_iload hx hb dL_changes_80 (lv_at hl 0 rfl) ?_
      refine g_xcallSH (As := [.ref (x0), .int (iI (z_3)), .int (iI (z_5)), .int (iI (1 + z_148))]) (rest := []) K (c_L_fund (by omega) hI hst (lG_n (by decide)) (lG_n (by decide)) (lG_n (by decide)) hF (z_3) (z_5) (1 + z_148) ⟨by omega, by omega⟩ ⟨by omega, by omega⟩ ⟨by omega, by omega⟩) (vx_cwSW 4 hts (gd_T gL_L_fund) rfl rfl rfl (by decide +kernel) ⟨Nat.le_of_ble_eq_true rfl, Nat.le_of_ble_eq_true rfl⟩) hK hW rfl hl.1 rfl (Nat.le_of_ble_eq_true rfl) dL_changes_82 ⟨by dsimp only; omega, by dsimp only; omega⟩ (fun v_ f H locs hp hW => ?_)
      obtain ⟨t_149, T_149, ht_149, hT_149, fx_149⟩ : ∃ (t : Int64) (T : ST), t = hvL (pFund S (z_3) (z_5) (1 + z_148)).1 (pFund S (z_3) (z_5) (1 + z_148)).2.1 (-10000001) (-10000002) ∧ T = (pFund S (z_3) (z_5) (1 + z_148)).2.2 ∧ F_fund n S M (z_3) (z_5) (1 + z_148) t T := ⟨_, _, rfl, rfl, f_fund (by omega) hI hk hM hd (by omega) (by omega) (by omega)⟩
      obtain ⟨hpv, hF⟩ := hp
      rw [← ht_149] at hpv
      rw [← hT_149] at hF
      subst hpv
      unfold F_fund at fx_149
      have hw_149 := fx_149.2.1
      have hI_149 := fx_149.2.2.1
      refine lv_aload_n hx hb dL_changes_85 rfl (lv_at hl 5 rfl) ?_
      refine lv_iload hx hb dL_changes_86 (lv_at hl 3 rfl) ?_
      refine lv_iload hx hb dL_changes_88 (lv_at hl 2 rfl) ?_
      refine g_xcallSH (As := [.ref (x0), .int (iI (z_3)), .int (iI (z_5))]) (rest := [.long (t_149)]) K (c_L_account (by omega) hI_149 hst (lG_n (by decide)) (lG_n (by decide)) (lG_n (by decide)) hF (z_3) (z_5) ⟨by omega, by omega⟩ ⟨by omega, by omega⟩) (vx_cwSW 3 hts (gd_T gL_L_account) rfl rfl rfl (by decide +kernel) ⟨Nat.le_of_ble_eq_true rfl, Nat.le_of_ble_eq_true rfl⟩) hK hW rfl hl.1 rfl (Nat.le_of_ble_eq_true rfl) dL_changes_90 ⟨by dsimp only; omega, by dsimp only; omega⟩ (fun v_ f H locs hp hW => ?_)
      rw [a_acc (S := T_149) (b := (z_3)) (c := (z_5)) (by omega) (by omega)] at hp
      obtain ⟨hpv, hF⟩ : v_ = some (.long (T_149.2 1 (3 * (z_3) + (z_5)))) ∧ wX D cy x0 T_149 (lG cy q (pL M 0 (z_5) ((M.2 0 z_5) + (Int64.ofInt (1 + z_148))))) f := hp
      subst hpv
      refine xi_lcmp_ne (tgt := 101) hx hb dL_changes_93 dL_changes_94 (by decide) (fun c_150 => ?_) (fun c_150 => ?_)
      · exact absurd fx_149.1 c_150
      · refine xi_iconst hx hb dL_changes_97 ?_
        refine lv_goto (tgt := 102) hx hb dL_changes_98 (by decide) ?_
        exact W.widen (by omega) (by omega) (g_zret hx hb hr (Or.inr rfl) hW ⟨rfl, T_149, _, hF, fx_149.2.2⟩ dL_changes_102 hlk)
  refine xi_if_ne (tgt := 38) hx hb ⟨by omega, by omega⟩ dL_changes_31 (by decide) (fun c_151 => ?_) (fun c_151 => ?_)
  · refine lv_iload hx hb dL_changes_38 (lv_at hl 7 rfl) ?_
    refine lv_aload_n hx hb dL_changes_40 rfl (lv_at hl 4 rfl) ?_
    refine xi_iconst hx hb dL_changes_41 ?_
    refine l_ild hx hb hK hF hW (i := 0) (by decide) (z := 0) (by omega) (by have e : ((lLen 0 : Nat) : Int) = 4 := rfl; omega) dL_changes_42 ?_
    refine g_callS (As := [.int (iI (y)), .int (iI (M.1 0 0))]) (rest := []) K (c_L_low (y) (M.1 0 0) ⟨by omega, by omega⟩ ⟨by omega, by omega⟩) (va_cwS 2 hts (gd_T gL_L_low) rfl rfl rfl (by decide +kernel) ⟨Nat.le_of_ble_eq_true rfl, Nat.le_of_ble_eq_true rfl⟩) hK hW rfl hl.1 rfl (Nat.le_of_ble_eq_true rfl) dL_changes_43 ⟨by dsimp only; omega, by dsimp only; omega⟩ (fun v_ f_ H locs hp hW => ?_)
    obtain ⟨z_152, z_152a, z_152b, hpv, hpe⟩ := hp
    rw [hpe] at hW
    subst hpv
    exact j_6 (z_152) f H locs (by unfold itsI; omega) hF hW
  · refine xi_iconst hx hb dL_changes_34 ?_
    refine lv_goto (tgt := 46) hx hb dL_changes_35 (by decide) ?_
    exact j_6 (0) f H locs (by unfold itsI; omega) hF hW
