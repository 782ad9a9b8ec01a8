/-! the law's goesOn -/
set_option maxHeartbeats 8000000 in
set_option maxRecDepth 100000 in
theorem c_L_goesOn {l : Launch} {D : va_G} {cy : Nat → ClassId} {B0 x0 n : Nat} {q : Nat → Nat} (hn : n < 110) (hst : l.stackTraces = false) {S M : ST} {f : gF} (hI : cI n S) (hk : kI (fun c => M.2 0 c) S) (hM : lM S S M) (hd : S.1 0 0 ≤ n) (hF : wX D cy x0 S (lG cy q M) f) (x y : Int) (h_x : rI x) (h_y : rI y) : gM l yL_goesOn vL_goesOn 15 344 D cy B0 [.ref (x0), .ref (q 0), .ref (q 1), .ref (q 2), .ref (q 3), .int (iI (x)), .int (iI (y))] f (fun r g_ => r = some (.int (iI 1)) ∧ ∃ (T M1 : ST), wX D cy x0 T (lG cy q M1) g_ ∧ actN n S T M1) 300 27500 := by
  refine g_start (cc := cL_goesOn) (maxL := 11) (ret := (some .boolean)) (by decide) rfl (Nat.le_of_ble_eq_true rfl) ?_
  intro p_ e_ s_ m_ be_ me_ co_ ls H locs K hr hlk hnm hK hW hl
  obtain ⟨hx, hb, hml, hown, hts⟩ := id K
  have hl : lv_has ls 11 [(0, .ref (x0)), (1, .ref (q 0)), (2, .ref (q 1)), (3, .ref (q 2)), (4, .ref (q 3)), (5, .int (iI (x))), (6, .int (iI (y)))] := hl
  have g0 := hM.1
  have g1 := hM.2.1
  have w8 := wf_8 hI.1.1.1 0
  have w0 := wf_0 hI.1.1.1 0
  refine lv_iload hx hb dL_goesOn_0 (lv_at hl 5 rfl) ?_
  refine xi_bipush hx hb dL_goesOn_2 (by decide) ?_
  refine g_callS (As := [.int (iI (x)), .int (iI (6))]) (rest := []) K (c_L_low (x) (6) ⟨by omega, by omega⟩ ⟨by omega, by omega⟩) (va_cwS 2 hts (gd_T gL_L_low) rfl rfl rfl (by decide +kernel) ⟨Nat.le_of_ble_eq_true rfl, Nat.le_of_ble_eq_true rfl⟩) hK hW rfl hl.1 rfl (Nat.le_of_ble_eq_true rfl) dL_goesOn_4 ⟨by dsimp only; omega, by dsimp only; omega⟩ (fun v_ f_ H locs hp hW => ?_)
  obtain ⟨z_1, z_1a, z_1b, hpv, hpe⟩ := hp
  rw [hpe] at hW
  subst hpv
  refine lv_istore (lv' := [(7, .int (iI (z_1))), (0, .ref (x0)), (1, .ref (q 0)), (2, .ref (q 1)), (3, .ref (q 2)), (4, .ref (q 3)), (5, .int (iI (x))), (6, .int (iI (y)))]) hx hb dL_goesOn_7 hl (by decide) rfl (fun ls hl => ?_)
  refine lv_aload_n hx hb dL_goesOn_9 rfl (lv_at hl 2 rfl) ?_
  refine xi_iconst hx hb dL_goesOn_10 ?_
  refine l_ild hx hb hK hF hW (i := 0) (by decide) (z := 0) (by omega) (by have e : ((lLen 0 : Nat) : Int) = 4 := rfl; omega) dL_goesOn_11 ?_
  have j_2 : ∀ (uI : Int) (f : gF) (H : Heap) (locs : List Loc), (itsI M uI) → wX D cy x0 S (lG cy q M) f → gW D B0 s_ f H locs → W p_ l e_ { frames := 15, cells := 300, slots := 27500, locals := 344 } s_ m_ ([.ref (x0), .ref (q 0), .ref (q 1), .ref (q 2), .ref (q 3), .int (iI (x)), .int (iI (y))] : List Value).toArray be_ me_ co_ H locs (0) (0) (MQ be_ (gQ D B0 (fun (r : Option Value) (g_ : gF) => r = some (.int (iI 1)) ∧ ∃ (T M1 : ST), wX D cy x0 T (lG cy q M1) g_ ∧ actN n S T M1)) ([.ref (x0), .ref (q 0), .ref (q 1), .ref (q 2), .ref (q 3), .int (iI (x)), .int (iI (y))] : List Value).toArray s_ 300 27500 (fun q : Nat => B0 ≤ q)) (F0 m_ 27 ls [.int (iI (uI))]) := by
    intro uI f H locs huI hF hW
    have uIc := huI
    unfold itsI at uIc
    refine lv_istore (lv' := [(8, .int (iI (uI))), (7, .int (iI (z_1))), (0, .ref (x0)), (1, .ref (q 0)), (2, .ref (q 1)), (3, .ref (q 2)), (4, .ref (q 3)), (5, .int (iI (x))), (6, .int (iI (y)))]) hx hb dL_goesOn_27 hl (by decide) rfl (fun ls hl => ?_)
    refine lv_iload hx hb dL_goesOn_29 (lv_at hl 1 rfl) ?_
    refine xi_iconst hx hb dL_goesOn_31 ?_
    refine xi_icmp_ge (tgt := 101) hx hb ⟨by omega, by omega⟩ ⟨by omega, by omega⟩ dL_goesOn_32 (by decide) (fun c_3 => ?_) (fun c_3 => ?_)
    · refine lv_iload hx hb dL_goesOn_101 (lv_at hl 1 rfl) ?_
      refine xi_iconst hx hb dL_goesOn_103 ?_
      refine xi_icmp_ne (tgt := 169) hx hb ⟨by omega, by omega⟩ ⟨by omega, by omega⟩ dL_goesOn_104 (by decide) (fun c_4 => ?_) (fun c_4 => ?_)
      · refine lv_iload hx hb dL_goesOn_169 (lv_at hl 1 rfl) ?_
        refine xi_iconst hx hb dL_goesOn_171 ?_
        refine xi_icmp_ne (tgt := 291) hx hb ⟨by omega, by omega⟩ ⟨by omega, by omega⟩ dL_goesOn_172 (by decide) (fun c_5 => ?_) (fun c_5 => ?_)
        · refine lv_iload hx hb dL_goesOn_291 (lv_at hl 7 rfl) ?_
          refine xi_iconst hx hb dL_goesOn_293 ?_
          refine xi_ishr hx hb dL_goesOn_294 (fun y_6 hy_6 => ?_)
          refine xi_bipush hx hb dL_goesOn_295 (by decide) ?_
          refine g_callS (As := [.int (iI (y_6)), .int (iI (6))]) (rest := []) K (c_L_low (y_6) (6) ⟨by omega, by omega⟩ ⟨by omega, by omega⟩) (va_cwS 2 hts (gd_T gL_L_low) rfl rfl rfl (by decide +kernel) ⟨Nat.le_of_ble_eq_true rfl, Nat.le_of_ble_eq_true rfl⟩) hK hW rfl hl.1 rfl (Nat.le_of_ble_eq_true rfl) dL_goesOn_297 ⟨by dsimp only; omega, by dsimp only; omega⟩ (fun v_ f_ H locs hp hW => ?_)
          obtain ⟨z_7, z_7a, z_7b, hpv, hpe⟩ := hp
          rw [hpe] at hW
          subst hpv
          refine lv_istore (lv' := [(9, .int (iI (z_7))), (8, .int (iI (uI))), (7, .int (iI (z_1))), (0, .ref (x0)), (1, .ref (q 0)), (2, .ref (q 1)), (3, .ref (q 2)), (4, .ref (q 3)), (5, .int (iI (x))), (6, .int (iI (y)))]) hx hb dL_goesOn_300 hl (by decide) rfl (fun ls hl => ?_)
          refine lv_iload hx hb dL_goesOn_302 (lv_at hl 2 rfl) ?_
          refine xi_iconst hx hb dL_goesOn_304 ?_
          refine xi_icmp_ne (tgt := 363) hx hb ⟨by omega, by omega⟩ ⟨by omega, by omega⟩ dL_goesOn_305 (by decide) (fun c_8 => ?_) (fun c_8 => ?_)
          · refine lv_aload_n hx hb dL_goesOn_363 rfl (lv_at hl 3 rfl) ?_
            refine lv_iload hx hb dL_goesOn_364 (lv_at hl 0 rfl) ?_
            refine lv_iload hx hb dL_goesOn_366 (lv_at hl 9 rfl) ?_
            refine xi_iconst hx hb dL_goesOn_368 ?_
            refine g_callS (As := [.int (iI (y)), .int (iI (4))]) (rest := [.int (iI (z_7)), .ref (x0)]) K (c_L_low (y) (4) ⟨by omega, by omega⟩ ⟨by omega, by omega⟩) (va_cwS 2 hts (gd_T gL_L_low) rfl rfl rfl (by decide +kernel) ⟨Nat.le_of_ble_eq_true rfl, Nat.le_of_ble_eq_true rfl⟩) hK hW rfl hl.1 rfl (Nat.le_of_ble_eq_true rfl) dL_goesOn_369 ⟨by dsimp only; omega, by dsimp only; omega⟩ (fun v_ f_ H locs hp hW => ?_)
            obtain ⟨z_9, z_9a, z_9b, hpv, hpe⟩ := hp
            rw [hpe] at hW
            subst hpv
            refine g_xcallSH (As := [.ref (x0), .int (iI (z_7)), .int (iI (z_9))]) (rest := []) K (c_L_again (by omega) hI hst (lG_n (by decide)) (lG_n (by decide)) (lG_n (by decide)) hF (z_7) (z_9) ⟨by omega, by omega⟩ ⟨by omega, by omega⟩) (vx_cwSW 3 hts (gd_T gL_L_again) rfl rfl rfl (by decide +kernel) ⟨Nat.le_of_ble_eq_true rfl, Nat.le_of_ble_eq_true rfl⟩) hK hW rfl hl.1 rfl (Nat.le_of_ble_eq_true rfl) dL_goesOn_372 ⟨by dsimp only; omega, by dsimp only; omega⟩ (fun v_ f H locs hp hW => ?_)
            obtain ⟨t_10, T_10, ht_10, hT_10, fx_10⟩ : ∃ (t : Int) (T : ST), t = hv (pAga S (z_7) (z_9)).1 (pAga S (z_7) (z_9)).2.1 (-1000001) (-1000002) 0 ∧ T = (pAga S (z_7) (z_9)).2.2 ∧ F_aga n S M  t T := ⟨_, _, rfl, rfl, f_again (by omega) hI hk hM hd (by omega) (by omega)⟩
            obtain ⟨hpv, hF⟩ := hp
            rw [← ht_10] at hpv
            rw [← hT_10] at hF
            subst hpv
            unfold F_aga at fx_10
            have hw_10 := fx_10.2.1
            have hI_10 := fx_10.2.2.1
            refine lv_istore (lv' := [(10, .int (iI (t_10))), (9, .int (iI (z_7))), (8, .int (iI (uI))), (7, .int (iI (z_1))), (0, .ref (x0)), (1, .ref (q 0)), (2, .ref (q 1)), (3, .ref (q 2)), (4, .ref (q 3)), (5, .int (iI (x))), (6, .int (iI (y)))]) hx hb dL_goesOn_375 hl (by decide) rfl (fun ls hl => ?_)
            refine lv_iload hx hb dL_goesOn_377 (lv_at hl 0 rfl) ?_
            refine xi_if_lt (tgt := 390) hx hb ⟨by omega, by omega⟩ dL_goesOn_379 (by decide) (fun c_11 => ?_) (fun c_11 => ?_)
            · refine lv_iload hx hb dL_goesOn_390 (lv_at hl 0 rfl) ?_
              refine xi_ldc hx hb (-1000002) (by decide) hown (hts _ kL_21) dL_goesOn_392 ?_
              refine xi_icmp_ne (tgt := 401) hx hb ⟨by omega, by omega⟩ ⟨by omega, by omega⟩ dL_goesOn_394 (by decide) (fun c_12 => ?_) (fun c_12 => ?_)
              · refine xi_iconst hx hb dL_goesOn_401 ?_
                exfalso; omega
              · refine xi_iconst hx hb dL_goesOn_397 ?_
                refine lv_goto (tgt := 402) hx hb dL_goesOn_398 (by decide) ?_
                exact W.widen (by omega) (by omega) (g_zret hx hb hr (Or.inr rfl) hW ⟨rfl, T_10, _, hF, fx_10.2.2⟩ dL_goesOn_402 hlk)
            · refine lv_iload hx hb dL_goesOn_382 (lv_at hl 0 rfl) ?_
              refine lv_aload_n hx hb dL_goesOn_384 rfl (lv_at hl 5 rfl) ?_
              refine xi_iconst hx hb dL_goesOn_385 ?_
              refine l_ild hx hb hK hF hW (i := 0) (by decide) (z := 0) (by omega) (by have e : ((lLen 0 : Nat) : Int) = 4 := rfl; omega) dL_goesOn_386 ?_
              refine xi_icmp_le (tgt := 397) hx hb ⟨by omega, by omega⟩ ⟨by omega, by omega⟩ dL_goesOn_387 (by decide) (fun c_13 => ?_) (fun c_13 => ?_)
              · refine xi_iconst hx hb dL_goesOn_397 ?_
                refine lv_goto (tgt := 402) hx hb dL_goesOn_398 (by decide) ?_
                exact W.widen (by omega) (by omega) (g_zret hx hb hr (Or.inr rfl) hW ⟨rfl, T_10, _, hF, fx_10.2.2⟩ dL_goesOn_402 hlk)
              · refine lv_iload hx hb dL_goesOn_390 (lv_at hl 0 rfl) ?_
                refine xi_ldc hx hb (-1000002) (by decide) hown (hts _ kL_21) dL_goesOn_392 ?_
                refine xi_icmp_ne (tgt := 401) hx hb ⟨by omega, by omega⟩ ⟨by omega, by omega⟩ dL_goesOn_394 (by decide) (fun c_14 => ?_) (fun c_14 => ?_)
                · refine xi_iconst hx hb dL_goesOn_401 ?_
                  exfalso; omega
                · refine xi_iconst hx hb dL_goesOn_397 ?_
                  refine lv_goto (tgt := 402) hx hb dL_goesOn_398 (by decide) ?_
                  exact W.widen (by omega) (by omega) (g_zret hx hb hr (Or.inr rfl) hW ⟨rfl, T_10, _, hF, fx_10.2.2⟩ dL_goesOn_402 hlk)
          · refine lv_aload_n hx hb dL_goesOn_308 rfl (lv_at hl 3 rfl) ?_
            refine lv_iload hx hb dL_goesOn_309 (lv_at hl 0 rfl) ?_
            refine g_xcallSH (As := [.ref (x0), .int (iI (z_7))]) (rest := []) K (c_L_advice (by omega) hI hst (lG_n (by decide)) (lG_n (by decide)) (lG_n (by decide)) hF (z_7) ⟨by omega, by omega⟩) (vx_cwSW 2 hts (gd_T gL_L_advice) rfl rfl rfl (by decide +kernel) ⟨Nat.le_of_ble_eq_true rfl, Nat.le_of_ble_eq_true rfl⟩) hK hW rfl hl.1 rfl (Nat.le_of_ble_eq_true rfl) dL_goesOn_311 ⟨by dsimp only; omega, by dsimp only; omega⟩ (fun v_ f H locs hp hW => ?_)
            obtain ⟨t_15, T_15, ht_15, hT_15, fx_15⟩ : ∃ (t : Int) (T : ST), t = hv (pAdv S (z_7)).1 (pAdv S (z_7)).2.1 (-1000001) 0 0 ∧ T = (pAdv S (z_7)).2.2 ∧ F_adv n S M (z_7) t T := ⟨_, _, rfl, rfl, f_advice (by omega) hI hk hM hd (by omega)⟩
            obtain ⟨hpv, hF⟩ := hp
            rw [← ht_15] at hpv
            rw [← hT_15] at hF
            subst hpv
            unfold F_adv at fx_15
            have hw_15 := fx_15.2.2.1
            have hI_15 := fx_15.2.2.2.1
            refine lv_istore (lv' := [(10, .int (iI (t_15))), (9, .int (iI (z_7))), (8, .int (iI (uI))), (7, .int (iI (z_1))), (0, .ref (x0)), (1, .ref (q 0)), (2, .ref (q 1)), (3, .ref (q 2)), (4, .ref (q 3)), (5, .int (iI (x))), (6, .int (iI (y)))]) hx hb dL_goesOn_314 hl (by decide) rfl (fun ls hl => ?_)
            refine lv_iload hx hb dL_goesOn_316 (lv_at hl 0 rfl) ?_
            refine xi_iconst hx hb dL_goesOn_318 ?_
            refine xi_icmp_eq (tgt := 357) hx hb ⟨by omega, by omega⟩ ⟨by omega, by omega⟩ dL_goesOn_319 (by decide) (fun c_16 => ?_) (fun c_16 => ?_)
            · refine xi_iconst hx hb dL_goesOn_357 ?_
              refine lv_goto (tgt := 362) hx hb dL_goesOn_358 (by decide) ?_
              exact W.widen (by omega) (by omega) (g_zret hx hb hr (Or.inr rfl) hW ⟨rfl, T_15, _, hF, fx_15.2.2.2⟩ dL_goesOn_362 hlk)
            · refine lv_iload hx hb dL_goesOn_322 (lv_at hl 0 rfl) ?_
              refine xi_if_lt (tgt := 361) hx hb ⟨by omega, by omega⟩ dL_goesOn_324 (by decide) (fun c_17 => ?_) (fun c_17 => ?_)
              · refine xi_iconst hx hb dL_goesOn_361 ?_
                exfalso; omega
              · refine lv_iload hx hb dL_goesOn_327 (lv_at hl 0 rfl) ?_
                refine lv_aload_n hx hb dL_goesOn_329 rfl (lv_at hl 5 rfl) ?_
                refine xi_iconst hx hb dL_goesOn_330 ?_
                refine l_ild hx hb hK hF hW (i := 0) (by decide) (z := 0) (by omega) (by have e : ((lLen 0 : Nat) : Int) = 4 := rfl; omega) dL_goesOn_331 ?_
                refine xi_icmp_ge (tgt := 361) hx hb ⟨by omega, by omega⟩ ⟨by omega, by omega⟩ dL_goesOn_332 (by decide) (fun c_18 => ?_) (fun c_18 => ?_)
                · refine xi_iconst hx hb dL_goesOn_361 ?_
                  exfalso; omega
                · refine lv_aload_n hx hb dL_goesOn_335 rfl (lv_at hl 6 rfl) ?_
                  refine lv_iload hx hb dL_goesOn_336 (lv_at hl 0 rfl) ?_
                  refine l_ild hx hb hK hF hW (i := 1) (by decide) (z := t_15) (by omega) (by have e : ((lLen 1 : Nat) : Int) = 60 := rfl; omega) dL_goesOn_338 ?_
                  refine xi_bipush hx hb dL_goesOn_339 (by decide) ?_
                  refine xi_irem hx hb ⟨by omega, by omega⟩ ⟨by omega, by omega⟩ dL_goesOn_341 ?_
                  refine lv_iload hx hb dL_goesOn_342 (lv_at hl 1 rfl) ?_
                  refine xi_icmp_ne (tgt := 361) hx hb ⟨by omega, by omega⟩ ⟨by omega, by omega⟩ dL_goesOn_344 (by decide) (fun c_19 => ?_) (fun c_19 => ?_)
                  · refine xi_iconst hx hb dL_goesOn_361 ?_
                    exfalso; omega
                  · refine lv_aload_n hx hb dL_goesOn_347 rfl (lv_at hl 4 rfl) ?_
                    refine lv_iload hx hb dL_goesOn_348 (lv_at hl 0 rfl) ?_
                    refine g_xcallSH (As := [.ref (x0), .int (iI (t_15))]) (rest := []) K (c_L_stateOf (by omega) hI_15 hst (lG_n (by decide)) (lG_n (by decide)) (lG_n (by decide)) hF (t_15) ⟨by omega, by omega⟩) (vx_cwSW 2 hts (gd_T gL_L_stateOf) rfl rfl rfl (by decide +kernel) ⟨Nat.le_of_ble_eq_true rfl, Nat.le_of_ble_eq_true rfl⟩) hK hW rfl hl.1 rfl (Nat.le_of_ble_eq_true rfl) dL_goesOn_350 ⟨by dsimp only; omega, by dsimp only; omega⟩ (fun v_ f H locs hp hW => ?_)
                    rw [a_state (S := T_15) (k := (t_15)) (by omega) (by omega)] at hp
                    obtain ⟨hpv, hF⟩ : v_ = some (.int (iI (T_15.1 18 (t_15)))) ∧ wX D cy x0 T_15 (lG cy q M) f := hp
                    subst hpv
                    have w_20 := wf_18 hw_15 (t_15)
                    refine xi_iconst hx hb dL_goesOn_353 ?_
                    refine xi_icmp_ne (tgt := 361) hx hb ⟨by omega, by omega⟩ ⟨by omega, by omega⟩ dL_goesOn_354 (by decide) (fun c_21 => ?_) (fun c_21 => ?_)
                    · refine xi_iconst hx hb dL_goesOn_361 ?_
                      exfalso; omega
                    · refine xi_iconst hx hb dL_goesOn_357 ?_
                      refine lv_goto (tgt := 362) hx hb dL_goesOn_358 (by decide) ?_
                      exact W.widen (by omega) (by omega) (g_zret hx hb hr (Or.inr rfl) hW ⟨rfl, T_15, _, hF, fx_15.2.2.2⟩ dL_goesOn_362 hlk)
        · refine lv_aload_n hx hb dL_goesOn_175 rfl (lv_at hl 2 rfl) ?_
          refine lv_iload hx hb dL_goesOn_176 (lv_at hl 0 rfl) ?_
          refine xi_iconst hx hb dL_goesOn_178 ?_
          refine g_xcallSH (As := [.ref (x0), .int (iI (uI)), .int (iI (bI (true)))]) (rest := []) K (c_L_answer (by omega) hI hst (lG_n (by decide)) (lG_n (by decide)) (lG_n (by decide)) hF (uI) (true) ⟨by omega, by omega⟩) (vx_cwSW 3 hts (gd_T gL_L_answer) rfl rfl rfl (by decide +kernel) ⟨Nat.le_of_ble_eq_true rfl, Nat.le_of_ble_eq_true rfl⟩) hK hW rfl hl.1 rfl (Nat.le_of_ble_eq_true rfl) dL_goesOn_179 ⟨by dsimp only; omega, by dsimp only; omega⟩ (fun v_ f H locs hp hW => ?_)
          obtain ⟨t_22, T_22, ht_22, hT_22, fx_22⟩ : ∃ (t : Int) (T : ST), t = hv (pAns S (uI) (true)).1 (pAns S (uI) (true)).2.1 (-1000001) (-1000003) 0 ∧ T = (pAns S (uI) (true)).2.2 ∧ F_ans n S M (uI) t T := ⟨_, _, rfl, rfl, f_answer (by omega) hI hk hM hd huI⟩
          obtain ⟨hpv, hF⟩ := hp
          rw [← ht_22] at hpv
          rw [← hT_22] at hF
          subst hpv
          unfold F_ans at fx_22
          have hw_22 : wf T_22 := by
            rcases fx_22 with h | h
            · exact h.2.1
            · exact h.2.2.2.2.2.2.2.2.2.2.1
          have hI_22 : cI (n + 1) T_22 := by
            rcases fx_22 with h | h
            · exact h.2.2.1
            · exact h.2.2.2.2.2.2.2.2.2.2.2.1
          refine lv_istore (lv' := [(9, .int (iI (t_22))), (8, .int (iI (uI))), (7, .int (iI (z_1))), (0, .ref (x0)), (1, .ref (q 0)), (2, .ref (q 1)), (3, .ref (q 2)), (4, .ref (q 3)), (5, .int (iI (x))), (6, .int (iI (y)))]) hx hb dL_goesOn_182 hl (by decide) rfl (fun ls hl => ?_)
          refine lv_iload hx hb dL_goesOn_184 (lv_at hl 0 rfl) ?_
          refine lv_aload_n hx hb dL_goesOn_186 rfl (lv_at hl 4 rfl) ?_
          refine xi_iconst hx hb dL_goesOn_187 ?_
          refine l_ild hx hb hK hF hW (i := 0) (by decide) (z := 0) (by omega) (by have e : ((lLen 0 : Nat) : Int) = 4 := rfl; omega) dL_goesOn_188 ?_
          refine xi_icmp_ne (tgt := 267) hx hb ⟨by omega, by omega⟩ ⟨by omega, by omega⟩ dL_goesOn_189 (by decide) (fun c_23 => ?_) (fun c_23 => ?_)
          · refine lv_iload hx hb dL_goesOn_267 (lv_at hl 0 rfl) ?_
            refine lv_aload_n hx hb dL_goesOn_269 rfl (lv_at hl 4 rfl) ?_
            refine xi_iconst hx hb dL_goesOn_270 ?_
            refine l_ild hx hb hK hF hW (i := 0) (by decide) (z := 0) (by omega) (by have e : ((lLen 0 : Nat) : Int) = 4 := rfl; omega) dL_goesOn_271 ?_
            refine xi_if_ne (tgt := 280) hx hb ⟨by omega, by omega⟩ dL_goesOn_272 (by decide) (fun c_24 => ?_) (fun c_24 => ?_)
            · refine xi_ldc hx hb (-1000003) (by decide) hown (hts _ kL_44) dL_goesOn_280 ?_
              refine xi_icmp_ne (tgt := 289) hx hb ⟨by omega, by omega⟩ ⟨by omega, by omega⟩ dL_goesOn_282 (by decide) (fun c_25 => ?_) (fun c_25 => ?_)
              · refine xi_iconst hx hb dL_goesOn_289 ?_
                exfalso; omega
              · refine xi_iconst hx hb dL_goesOn_285 ?_
                refine lv_goto (tgt := 290) hx hb dL_goesOn_286 (by decide) ?_
                exact W.widen (by omega) (by omega) (g_zret hx hb hr (Or.inr rfl) hW ⟨rfl, T_22, _, hF, by rcases fx_22 with h | h <;> first | exact h.2.2 | exact h.2.2.2.2.2.2.2.2.2.2.2 | (exfalso; omega)⟩ dL_goesOn_290 hlk)
            · refine xi_ldc hx hb (-1000001) (by decide) hown (hts _ kL_18) dL_goesOn_275 ?_
              refine lv_goto (tgt := 282) hx hb dL_goesOn_277 (by decide) ?_
              refine xi_icmp_ne (tgt := 289) hx hb ⟨by omega, by omega⟩ ⟨by omega, by omega⟩ dL_goesOn_282 (by decide) (fun c_26 => ?_) (fun c_26 => ?_)
              · refine xi_iconst hx hb dL_goesOn_289 ?_
                exfalso; omega
              · refine xi_iconst hx hb dL_goesOn_285 ?_
                refine lv_goto (tgt := 290) hx hb dL_goesOn_286 (by decide) ?_
                exact W.widen (by omega) (by omega) (g_zret hx hb hr (Or.inr rfl) hW ⟨rfl, T_22, _, hF, by rcases fx_22 with h | h <;> first | exact h.2.2 | exact h.2.2.2.2.2.2.2.2.2.2.2 | (exfalso; omega)⟩ dL_goesOn_290 hlk)
          · refine lv_aload_n hx hb dL_goesOn_192 rfl (lv_at hl 4 rfl) ?_
            refine xi_iconst hx hb dL_goesOn_193 ?_
            refine l_ild hx hb hK hF hW (i := 0) (by decide) (z := 0) (by omega) (by have e : ((lLen 0 : Nat) : Int) = 4 := rfl; omega) dL_goesOn_194 ?_
            refine xi_if_le (tgt := 267) hx hb ⟨by omega, by omega⟩ dL_goesOn_195 (by decide) (fun c_27 => ?_) (fun c_27 => ?_)
            · refine lv_iload hx hb dL_goesOn_267 (lv_at hl 0 rfl) ?_
              refine lv_aload_n hx hb dL_goesOn_269 rfl (lv_at hl 4 rfl) ?_
              refine xi_iconst hx hb dL_goesOn_270 ?_
              refine l_ild hx hb hK hF hW (i := 0) (by decide) (z := 0) (by omega) (by have e : ((lLen 0 : Nat) : Int) = 4 := rfl; omega) dL_goesOn_271 ?_
              refine xi_if_ne (tgt := 280) hx hb ⟨by omega, by omega⟩ dL_goesOn_272 (by decide) (fun c_28 => ?_) (fun c_28 => ?_)
              · refine xi_ldc hx hb (-1000003) (by decide) hown (hts _ kL_44) dL_goesOn_280 ?_
                refine xi_icmp_ne (tgt := 289) hx hb ⟨by omega, by omega⟩ ⟨by omega, by omega⟩ dL_goesOn_282 (by decide) (fun c_29 => ?_) (fun c_29 => ?_)
                · refine xi_iconst hx hb dL_goesOn_289 ?_
                  exfalso; omega
                · refine xi_iconst hx hb dL_goesOn_285 ?_
                  refine lv_goto (tgt := 290) hx hb dL_goesOn_286 (by decide) ?_
                  exact W.widen (by omega) (by omega) (g_zret hx hb hr (Or.inr rfl) hW ⟨rfl, T_22, _, hF, by rcases fx_22 with h | h <;> first | exact h.2.2 | exact h.2.2.2.2.2.2.2.2.2.2.2 | (exfalso; omega)⟩ dL_goesOn_290 hlk)
              · refine xi_ldc hx hb (-1000001) (by decide) hown (hts _ kL_18) dL_goesOn_275 ?_
                refine lv_goto (tgt := 282) hx hb dL_goesOn_277 (by decide) ?_
                refine xi_icmp_ne (tgt := 289) hx hb ⟨by omega, by omega⟩ ⟨by omega, by omega⟩ dL_goesOn_282 (by decide) (fun c_30 => ?_) (fun c_30 => ?_)
                · refine xi_iconst hx hb dL_goesOn_289 ?_
                  exfalso; omega
                · refine xi_iconst hx hb dL_goesOn_285 ?_
                  refine lv_goto (tgt := 290) hx hb dL_goesOn_286 (by decide) ?_
                  exact W.widen (by omega) (by omega) (g_zret hx hb hr (Or.inr rfl) hW ⟨rfl, T_22, _, hF, by rcases fx_22 with h | h <;> first | exact h.2.2 | exact h.2.2.2.2.2.2.2.2.2.2.2 | (exfalso; omega)⟩ dL_goesOn_290 hlk)
            · refine lv_aload_n hx hb dL_goesOn_198 rfl (lv_at hl 5 rfl) ?_
              refine lv_iload hx hb dL_goesOn_199 (lv_at hl 0 rfl) ?_
              refine xi_bipush hx hb dL_goesOn_201 (by decide) ?_
              refine lv_aload_n hx hb dL_goesOn_203 rfl (lv_at hl 5 rfl) ?_
              refine lv_iload hx hb dL_goesOn_204 (lv_at hl 1 rfl) ?_
              refine l_ild hx hb hK hF hW (i := 1) (by decide) (z := uI) (by omega) (by have e : ((lLen 1 : Nat) : Int) = 60 := rfl; omega) dL_goesOn_206 ?_
              refine xi_bipush hx hb dL_goesOn_207 (by decide) ?_
              refine xi_irem hx hb ⟨by omega, by omega⟩ ⟨by omega, by omega⟩ dL_goesOn_209 ?_
              refine xi_imul hx hb dL_goesOn_210 ?_
              refine lv_aload_n hx hb dL_goesOn_211 rfl (lv_at hl 5 rfl) ?_
              refine lv_iload hx hb dL_goesOn_212 (lv_at hl 1 rfl) ?_
              refine l_ild hx hb hK hF hW (i := 1) (by decide) (z := uI) (by omega) (by have e : ((lLen 1 : Nat) : Int) = 60 := rfl; omega) dL_goesOn_214 ?_
              refine xi_bipush hx hb dL_goesOn_215 (by decide) ?_
              refine xi_idiv hx hb ⟨by omega, by omega⟩ ⟨by omega, by omega⟩ dL_goesOn_217 ?_
              refine xi_iadd hx hb dL_goesOn_218 ?_
              refine l_ist hx hb hK hF hW (i := 1) (by decide) (z := t_22) (v := (8 * ((M.1 1 uI) % 8)) + ((M.1 1 uI) / 8)) (by omega) (by have e : ((lLen 1 : Nat) : Int) = 60 := rfl; omega) dL_goesOn_219 (fun f H locs hF hW => ?_)
              refine lv_aload_n hx hb dL_goesOn_220 rfl (lv_at hl 6 rfl) ?_
              refine lv_iload hx hb dL_goesOn_221 (lv_at hl 0 rfl) ?_
              refine lv_aload_n hx hb dL_goesOn_223 rfl (lv_at hl 6 rfl) ?_
              refine lv_iload hx hb dL_goesOn_224 (lv_at hl 1 rfl) ?_
              refine l_ild hx hb hK hF hW (i := 2) (by decide) (z := uI) (by omega) (by have e : ((lLen 2 : Nat) : Int) = 60 := rfl; omega) dL_goesOn_226 ?_
              refine xi_eq (z' := M.1 2 uI) (by simp [pI, pL]) ?_
              refine l_ist hx hb hK hF hW (i := 2) (by decide) (z := t_22) (v := M.1 2 uI) (by omega) (by have e : ((lLen 2 : Nat) : Int) = 60 := rfl; omega) dL_goesOn_227 (fun f H locs hF hW => ?_)
              refine lv_aload hx hb dL_goesOn_228 (lv_at hl 7 rfl) ?_
              refine lv_iload hx hb dL_goesOn_230 (lv_at hl 0 rfl) ?_
              refine xi_iconst hx hb dL_goesOn_232 ?_
              refine l_ist hx hb hK hF hW (i := 3) (by decide) (z := t_22) (v := 5) (by omega) (by have e : ((lLen 3 : Nat) : Int) = 60 := rfl; omega) dL_goesOn_233 (fun f H locs hF hW => ?_)
              refine lv_aload_n hx hb dL_goesOn_234 rfl (lv_at hl 4 rfl) ?_
              refine xi_iconst hx hb dL_goesOn_235 ?_
              refine lv_dup2_11 hx hb dL_goesOn_236 rfl rfl ?_
              refine l_ild hx hb hK hF hW (i := 0) (by decide) (z := 0) (by omega) (by have e : ((lLen 0 : Nat) : Int) = 4 := rfl; omega) dL_goesOn_237 ?_
              refine xi_eq (z' := M.1 0 0) (by simp [pI, pL]) ?_
              refine xi_iconst hx hb dL_goesOn_238 ?_
              refine xi_iadd hx hb dL_goesOn_239 ?_
              refine l_ist hx hb hK hF hW (i := 0) (by decide) (z := 0) (v := (M.1 0 0) + 1) (by omega) (by have e : ((lLen 0 : Nat) : Int) = 4 := rfl; omega) dL_goesOn_240 (fun f H locs hF hW => ?_)
              refine lv_aload_n hx hb dL_goesOn_241 rfl (lv_at hl 3 rfl) ?_
              obtain ⟨fs_, hfs_⟩ := wX_at hF
              refine g_callV (i := 100000) (As := []) (rest := []) K (x_payments hw_22 hF) (cwV 0 hts (gd_T gL_X11_payments) rfl rfl rfl (by decide +kernel) ⟨Nat.le_of_ble_eq_true rfl, Nat.le_of_ble_eq_true rfl⟩) hK hW hfs_ rfl rfl hl.1 rfl (Nat.le_of_ble_eq_true rfl) dL_goesOn_242 ⟨by dsimp only; omega, by dsimp only; omega⟩ (fun v_ f_ H locs hp hW => ?_)
              obtain ⟨hpv, hpe⟩ := hp
              rw [hpe] at hW
              subst hpv
              have w_31 := wf_8 hw_22 0
              refine lv_aload_n hx hb dL_goesOn_245 rfl (lv_at hl 4 rfl) ?_
              refine xi_iconst hx hb dL_goesOn_246 ?_
              refine l_ild hx hb hK hF hW (i := 0) (by decide) (z := 0) (by omega) (by have e : ((lLen 0 : Nat) : Int) = 4 := rfl; omega) dL_goesOn_247 ?_
              refine xi_eq (z' := (M.1 0 0) + 1) (by simp [pI, pL]) ?_
              refine xi_icmp_ne (tgt := 265) hx hb ⟨by omega, by omega⟩ ⟨by omega, by omega⟩ dL_goesOn_248 (by decide) (fun c_32 => ?_) (fun c_32 => ?_)
              · refine xi_iconst hx hb dL_goesOn_265 ?_
                exfalso; omega
              · refine lv_aload_n hx hb dL_goesOn_251 rfl (lv_at hl 3 rfl) ?_
                refine lv_iload hx hb dL_goesOn_252 (lv_at hl 1 rfl) ?_
                refine g_xcallSH (As := [.ref (x0), .int (iI (uI))]) (rest := []) K (c_L_stateOf (by omega) hI_22 hst (lG_n (by decide)) (lG_n (by decide)) (lG_n (by decide)) hF (uI) ⟨by omega, by omega⟩) (vx_cwSW 2 hts (gd_T gL_L_stateOf) rfl rfl rfl (by decide +kernel) ⟨Nat.le_of_ble_eq_true rfl, Nat.le_of_ble_eq_true rfl⟩) hK hW rfl hl.1 rfl (Nat.le_of_ble_eq_true rfl) dL_goesOn_254 ⟨by dsimp only; omega, by dsimp only; omega⟩ (fun v_ f H locs hp hW => ?_)
                rw [a_state (S := T_22) (k := (uI)) (by omega) (by omega)] at hp
                obtain ⟨hpv, hF⟩ : v_ = some (.int (iI (T_22.1 18 (uI)))) ∧ wX D cy x0 T_22 (lG cy q (pI (pI (pI (pI M 1 (t_22) ((8 * ((M.1 1 uI) % 8)) + ((M.1 1 uI) / 8))) 2 (t_22) (M.1 2 uI)) 3 (t_22) (5)) 0 (0) ((M.1 0 0) + 1))) f := hp
                subst hpv
                have w_33 := wf_18 hw_22 (uI)
                refine xi_iconst hx hb dL_goesOn_257 ?_
                refine xi_icmp_ne (tgt := 265) hx hb ⟨by omega, by omega⟩ ⟨by omega, by omega⟩ dL_goesOn_258 (by decide) (fun c_34 => ?_) (fun c_34 => ?_)
                · refine xi_iconst hx hb dL_goesOn_265 ?_
                  exfalso; omega
                · refine xi_iconst hx hb dL_goesOn_261 ?_
                  refine lv_goto (tgt := 266) hx hb dL_goesOn_262 (by decide) ?_
                  exact W.widen (by omega) (by omega) (g_zret hx hb hr (Or.inr rfl) hW ⟨rfl, T_22, _, hF, by rcases fx_22 with h | h <;> first | exact h.2.2 | exact h.2.2.2.2.2.2.2.2.2.2.2 | (exfalso; omega)⟩ dL_goesOn_266 hlk)
      · refine lv_aload_n hx hb dL_goesOn_107 rfl (lv_at hl 2 rfl) ?_
        refine lv_iload hx hb dL_goesOn_108 (lv_at hl 0 rfl) ?_
        refine g_xcallSH (As := [.ref (x0), .int (iI (uI))]) (rest := []) K (c_L_recall (by omega) hI hst (lG_n (by decide)) (lG_n (by decide)) (lG_n (by decide)) hF (uI) ⟨by omega, by omega⟩) (vx_cwSW 2 hts (gd_T gL_L_recall) rfl rfl rfl (by decide +kernel) ⟨Nat.le_of_ble_eq_true rfl, Nat.le_of_ble_eq_true rfl⟩) hK hW rfl hl.1 rfl (Nat.le_of_ble_eq_true rfl) dL_goesOn_110 ⟨by dsimp only; omega, by dsimp only; omega⟩ (fun v_ f H locs hp hW => ?_)
        obtain ⟨t_35, T_35, ht_35, hT_35, fx_35⟩ : ∃ (t : Int) (T : ST), t = hv (pRec S (uI)).1 (pRec S (uI)).2.1 (-1000001) (-1000003) 0 ∧ T = (pRec S (uI)).2.2 ∧ F_rec n S M (uI) t T := ⟨_, _, rfl, rfl, f_recall (by omega) hI hk hM hd huI⟩
        obtain ⟨hpv, hF⟩ := hp
        rw [← ht_35] at hpv
        rw [← hT_35] at hF
        subst hpv
        unfold F_rec at fx_35
        have hw_35 := fx_35.2.2.1
        have hI_35 := fx_35.2.2.2.1
        refine lv_istore (lv' := [(9, .int (iI (t_35))), (8, .int (iI (uI))), (7, .int (iI (z_1))), (0, .ref (x0)), (1, .ref (q 0)), (2, .ref (q 1)), (3, .ref (q 2)), (4, .ref (q 3)), (5, .int (iI (x))), (6, .int (iI (y)))]) hx hb dL_goesOn_113 hl (by decide) rfl (fun ls hl => ?_)
        refine lv_aload_n hx hb dL_goesOn_115 rfl (lv_at hl 4 rfl) ?_
        refine xi_iconst hx hb dL_goesOn_116 ?_
        refine l_ild hx hb hK hF hW (i := 0) (by decide) (z := 0) (by omega) (by have e : ((lLen 0 : Nat) : Int) = 4 := rfl; omega) dL_goesOn_117 ?_
        refine xi_if_ne (tgt := 136) hx hb ⟨by omega, by omega⟩ dL_goesOn_118 (by decide) (fun c_36 => ?_) (fun c_36 => ?_)
        · refine lv_iload hx hb dL_goesOn_136 (lv_at hl 0 rfl) ?_
          refine xi_ldc hx hb (-1000003) (by decide) hown (hts _ kL_44) dL_goesOn_138 ?_
          refine xi_icmp_eq (tgt := 163) hx hb ⟨by omega, by omega⟩ ⟨by omega, by omega⟩ dL_goesOn_140 (by decide) (fun c_37 => ?_) (fun c_37 => ?_)
          · refine xi_iconst hx hb dL_goesOn_163 ?_
            refine lv_goto (tgt := 168) hx hb dL_goesOn_164 (by decide) ?_
            exact W.widen (by omega) (by omega) (g_zret hx hb hr (Or.inr rfl) hW ⟨rfl, T_35, _, hF, fx_35.2.2.2⟩ dL_goesOn_168 hlk)
          · refine lv_iload hx hb dL_goesOn_143 (lv_at hl 0 rfl) ?_
            refine lv_aload_n hx hb dL_goesOn_145 rfl (lv_at hl 4 rfl) ?_
            refine xi_iconst hx hb dL_goesOn_146 ?_
            refine l_ild hx hb hK hF hW (i := 0) (by decide) (z := 1) (by omega) (by have e : ((lLen 0 : Nat) : Int) = 4 := rfl; omega) dL_goesOn_147 ?_
            refine xi_iconst hx hb dL_goesOn_148 ?_
            refine xi_iadd hx hb dL_goesOn_149 ?_
            refine xi_icmp_ne (tgt := 167) hx hb ⟨by omega, by omega⟩ ⟨by omega, by omega⟩ dL_goesOn_150 (by decide) (fun c_38 => ?_) (fun c_38 => ?_)
            · refine xi_iconst hx hb dL_goesOn_167 ?_
              exfalso; omega
            · refine lv_aload_n hx hb dL_goesOn_153 rfl (lv_at hl 3 rfl) ?_
              refine lv_iload hx hb dL_goesOn_154 (lv_at hl 1 rfl) ?_
              refine g_xcallSH (As := [.ref (x0), .int (iI (uI))]) (rest := []) K (c_L_stateOf (by omega) hI_35 hst (lG_n (by decide)) (lG_n (by decide)) (lG_n (by decide)) hF (uI) ⟨by omega, by omega⟩) (vx_cwSW 2 hts (gd_T gL_L_stateOf) rfl rfl rfl (by decide +kernel) ⟨Nat.le_of_ble_eq_true rfl, Nat.le_of_ble_eq_true rfl⟩) hK hW rfl hl.1 rfl (Nat.le_of_ble_eq_true rfl) dL_goesOn_156 ⟨by dsimp only; omega, by dsimp only; omega⟩ (fun v_ f H locs hp hW => ?_)
              obtain ⟨t_39, ht_39, fs_39⟩ : ∃ t : Int, t = hv (pStat T_35 (uI)).1 (pStat T_35 (uI)).2.1 (-1000001) 0 0 ∧ F_st T_35 M (uI) t := ⟨_, rfl, f_state hI_35 (by omega) huI⟩
              obtain ⟨hpv, hF⟩ := hp
              rw [← ht_39] at hpv
              rw [stat_S] at hF
              subst hpv
              unfold F_st at fs_39
              refine xi_iconst hx hb dL_goesOn_159 ?_
              refine xi_icmp_ne (tgt := 167) hx hb ⟨by omega, by omega⟩ ⟨by omega, by omega⟩ dL_goesOn_160 (by decide) (fun c_40 => ?_) (fun c_40 => ?_)
              · refine xi_iconst hx hb dL_goesOn_167 ?_
                exfalso; omega
              · refine xi_iconst hx hb dL_goesOn_163 ?_
                refine lv_goto (tgt := 168) hx hb dL_goesOn_164 (by decide) ?_
                exact W.widen (by omega) (by omega) (g_zret hx hb hr (Or.inr rfl) hW ⟨rfl, T_35, _, hF, fx_35.2.2.2⟩ dL_goesOn_168 hlk)
        · refine lv_iload hx hb dL_goesOn_121 (lv_at hl 0 rfl) ?_
          refine xi_ldc hx hb (-1000001) (by decide) hown (hts _ kL_18) dL_goesOn_123 ?_
          refine xi_icmp_ne (tgt := 132) hx hb ⟨by omega, by omega⟩ ⟨by omega, by omega⟩ dL_goesOn_125 (by decide) (fun c_41 => ?_) (fun c_41 => ?_)
          · refine xi_iconst hx hb dL_goesOn_132 ?_
            refine lv_goto (tgt := 168) hx hb dL_goesOn_133 (by decide) ?_
            exfalso; omega
          · refine xi_iconst hx hb dL_goesOn_128 ?_
            refine lv_goto (tgt := 168) hx hb dL_goesOn_129 (by decide) ?_
            exact W.widen (by omega) (by omega) (g_zret hx hb hr (Or.inr rfl) hW ⟨rfl, T_35, _, hF, fx_35.2.2.2⟩ dL_goesOn_168 hlk)
    · refine lv_aload_n hx hb dL_goesOn_35 rfl (lv_at hl 3 rfl) ?_
      refine xi_iconst hx hb dL_goesOn_36 ?_
      refine l_ild hx hb hK hF hW (i := 0) (by decide) (z := 1) (by omega) (by have e : ((lLen 0 : Nat) : Int) = 4 := rfl; omega) dL_goesOn_37 ?_
      refine xi_sipush hx hb dL_goesOn_38 (by decide) ?_
      refine xi_icmp_ne (tgt := 59) hx hb ⟨by omega, by omega⟩ ⟨by omega, by omega⟩ dL_goesOn_41 (by decide) (fun c_42 => ?_) (fun c_42 => ?_)
      · refine lv_aload_n hx hb dL_goesOn_59 rfl (lv_at hl 2 rfl) ?_
        refine g_xcallSH (As := [.ref (x0)]) (rest := []) K (c_L_endDay (by omega) hI hst (lG_n (by decide)) (lG_n (by decide)) (lG_n (by decide)) hF  ) (vx_cwSW 1 hts (gd_T gL_L_endDay) rfl rfl rfl (by decide +kernel) ⟨Nat.le_of_ble_eq_true rfl, Nat.le_of_ble_eq_true rfl⟩) hK hW rfl hl.1 rfl (Nat.le_of_ble_eq_true rfl) dL_goesOn_60 ⟨by dsimp only; omega, by dsimp only; omega⟩ (fun v_ f H locs hp hW => ?_)
        obtain ⟨t_43, T_43, ht_43, hT_43, fx_43⟩ : ∃ (t : Int) (T : ST), t = hv (pEnd S).1 (pEnd S).2.1 (-1000003) 0 0 ∧ T = (pEnd S).2.2 ∧ F_day n S M  t T := ⟨_, _, rfl, rfl, f_endDay (by omega) hI hk hM hd ⟩
        obtain ⟨hpv, hF⟩ := hp
        rw [← ht_43] at hpv
        rw [← hT_43] at hF
        subst hpv
        unfold F_day at fx_43
        have hw_43 := fx_43.2.2.2.2.1
        have hI_43 := fx_43.2.2.2.2.2.1
        refine lv_istore (lv' := [(9, .int (iI (t_43))), (8, .int (iI (uI))), (7, .int (iI (z_1))), (0, .ref (x0)), (1, .ref (q 0)), (2, .ref (q 1)), (3, .ref (q 2)), (4, .ref (q 3)), (5, .int (iI (x))), (6, .int (iI (y)))]) hx hb dL_goesOn_63 hl (by decide) rfl (fun ls hl => ?_)
        refine lv_aload_n hx hb dL_goesOn_65 rfl (lv_at hl 4 rfl) ?_
        refine xi_iconst hx hb dL_goesOn_66 ?_
        refine lv_dup2_11 hx hb dL_goesOn_67 rfl rfl ?_
        refine l_ild hx hb hK hF hW (i := 0) (by decide) (z := 1) (by omega) (by have e : ((lLen 0 : Nat) : Int) = 4 := rfl; omega) dL_goesOn_68 ?_
        refine xi_iconst hx hb dL_goesOn_69 ?_
        refine xi_iadd hx hb dL_goesOn_70 ?_
        refine l_ist hx hb hK hF hW (i := 0) (by decide) (z := 1) (v := (M.1 0 1) + 1) (by omega) (by have e : ((lLen 0 : Nat) : Int) = 4 := rfl; omega) dL_goesOn_71 (fun f H locs hF hW => ?_)
        refine lv_iload hx hb dL_goesOn_72 (lv_at hl 0 rfl) ?_
        refine xi_if_lt (tgt := 99) hx hb ⟨by omega, by omega⟩ dL_goesOn_74 (by decide) (fun c_44 => ?_) (fun c_44 => ?_)
        · refine xi_iconst hx hb dL_goesOn_99 ?_
          exfalso; omega
        · refine lv_iload hx hb dL_goesOn_77 (lv_at hl 0 rfl) ?_
          refine lv_aload_n hx hb dL_goesOn_79 rfl (lv_at hl 4 rfl) ?_
          refine xi_iconst hx hb dL_goesOn_80 ?_
          refine l_ild hx hb hK hF hW (i := 0) (by decide) (z := 0) (by omega) (by have e : ((lLen 0 : Nat) : Int) = 4 := rfl; omega) dL_goesOn_81 ?_
          refine xi_eq (z' := M.1 0 0) (by simp [pI, pL]) ?_
          refine xi_icmp_gt (tgt := 99) hx hb ⟨by omega, by omega⟩ ⟨by omega, by omega⟩ dL_goesOn_82 (by decide) (fun c_45 => ?_) (fun c_45 => ?_)
          · refine xi_iconst hx hb dL_goesOn_99 ?_
            exfalso; omega
          · refine lv_aload_n hx hb dL_goesOn_85 rfl (lv_at hl 3 rfl) ?_
            obtain ⟨fs_, hfs_⟩ := wX_at hF
            refine g_callV (i := 100000) (As := []) (rest := []) K (x_today hw_43 hF) (cwV 0 hts (gd_T gL_X11_today) rfl rfl rfl (by decide +kernel) ⟨Nat.le_of_ble_eq_true rfl, Nat.le_of_ble_eq_true rfl⟩) hK hW hfs_ rfl rfl hl.1 rfl (Nat.le_of_ble_eq_true rfl) dL_goesOn_86 ⟨by dsimp only; omega, by dsimp only; omega⟩ (fun v_ f_ H locs hp hW => ?_)
            obtain ⟨hpv, hpe⟩ := hp
            rw [hpe] at hW
            subst hpv
            have w_46 := wf_0 hw_43 0
            refine lv_aload_n hx hb dL_goesOn_89 rfl (lv_at hl 4 rfl) ?_
            refine xi_iconst hx hb dL_goesOn_90 ?_
            refine l_ild hx hb hK hF hW (i := 0) (by decide) (z := 1) (by omega) (by have e : ((lLen 0 : Nat) : Int) = 4 := rfl; omega) dL_goesOn_91 ?_
            refine xi_eq (z' := (M.1 0 1) + 1) (by simp [pI, pL]) ?_
            refine xi_icmp_ne (tgt := 99) hx hb ⟨by omega, by omega⟩ ⟨by omega, by omega⟩ dL_goesOn_92 (by decide) (fun c_47 => ?_) (fun c_47 => ?_)
            · refine xi_iconst hx hb dL_goesOn_99 ?_
              exfalso; omega
            · refine xi_iconst hx hb dL_goesOn_95 ?_
              refine lv_goto (tgt := 100) hx hb dL_goesOn_96 (by decide) ?_
              exact W.widen (by omega) (by omega) (g_zret hx hb hr (Or.inr rfl) hW ⟨rfl, T_43, _, hF, fx_43.2.2.2.2.2⟩ dL_goesOn_100 hlk)
      · exfalso
        omega
  refine xi_if_ne (tgt := 19) hx hb ⟨by omega, by omega⟩ dL_goesOn_12 (by decide) (fun c_48 => ?_) (fun c_48 => ?_)
  · refine lv_iload hx hb dL_goesOn_19 (lv_at hl 7 rfl) ?_
    refine lv_aload_n hx hb dL_goesOn_21 rfl (lv_at hl 2 rfl) ?_
    refine xi_iconst hx hb dL_goesOn_22 ?_
    refine l_ild hx hb hK hF hW (i := 0) (by decide) (z := 0) (by omega) (by have e : ((lLen 0 : Nat) : Int) = 4 := rfl; omega) dL_goesOn_23 ?_
    refine g_callS (As := [.int (iI (y)), .int (iI (M.1 0 0))]) (rest := []) K (c_L_low (y) (M.1 0 0) ⟨by omega, by omega⟩ ⟨by omega, by omega⟩) (va_cwS 2 hts (gd_T gL_L_low) rfl rfl rfl (by decide +kernel) ⟨Nat.le_of_ble_eq_true rfl, Nat.le_of_ble_eq_true rfl⟩) hK hW rfl hl.1 rfl (Nat.le_of_ble_eq_true rfl) dL_goesOn_24 ⟨by dsimp only; omega, by dsimp only; omega⟩ (fun v_ f_ H locs hp hW => ?_)
    obtain ⟨z_49, z_49a, z_49b, hpv, hpe⟩ := hp
    rw [hpe] at hW
    subst hpv
    exact j_2 (z_49) f H locs (by unfold itsI; omega) hF hW
  · refine xi_iconst hx hb dL_goesOn_15 ?_
    refine lv_goto (tgt := 27) hx hb dL_goesOn_16 (by decide) ?_
    exact j_2 (0) f H locs (by unfold itsI; omega) hF hW
