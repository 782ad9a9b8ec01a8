/-! the law's isBook -/
set_option maxHeartbeats 8000000 in
set_option maxRecDepth 100000 in
theorem c_L_isBook {l : Launch} {D : va_G} {cy : Nat → ClassId} {B0 x0 n : Nat} {q : Nat → Nat} (hn : n < 111) (hst : l.stackTraces = false) {S0 S M : ST} {f : gF} (hI : cI n S) (hk : kI (fun c => M.2 0 c) S) (hM : lM S0 S M) (he : evS S0 S) (h31 : S.1 31 0 ≤ S0.1 31 0 + 97) (hw0 : wf S0) (hE0 : kE S0) (hH0 : kH S0) (hF : wX D cy x0 S (lG cy q M) f) : gM l yL_isBook vL_isBook 9 174 D cy B0 [.ref (x0), .ref (q 0), .ref (q 1), .ref (q 2), .ref (q 3), .ref (q 4), .ref (q 5)] f (fun r g_ => r = some (.int (iI 1)) ∧ ∃ M1 : ST, wX D cy x0 S (lG cy q M1) g_ ∧ lM S S M1 ∧ M1.2 = M.2) 3200 19200 := by
  refine g_start (cc := cL_isBook) (maxL := 14) (ret := (some .boolean)) (by decide) rfl (Nat.le_of_ble_eq_true rfl) ?_
  intro p_ e_ s_ m_ be_ me_ co_ ls H locs K hr hlk hnm hK hW hl
  obtain ⟨hx, hb, hml, hown, hts⟩ := id K
  have hl : lv_has ls 14 [(0, .ref (x0)), (1, .ref (q 0)), (2, .ref (q 1)), (3, .ref (q 2)), (4, .ref (q 3)), (5, .ref (q 4)), (6, .ref (q 5))] := hl
  have g0 := hM.1
  have g1 := hM.2.1
  have w8 := wf_8 hI.1.1.1 0
  have w0 := wf_0 hI.1.1.1 0
  have g2 := hM.2.2.1
  have he1 := he.1
  have w31 := wf_31 hI.1.1.1 0
  have w310 := wf_31 hw0 0
  refine lv_aload_n hx hb dL_isBook_0 rfl (lv_at hl 0 rfl) ?_
  obtain ⟨fs_, hfs_⟩ := wX_at hF
  refine g_callV (i := 100000) (As := []) (rest := []) K (x_payments hI.1.1.1 hF) (cwV 0 hts (gd_T gL_X11_payments) rfl rfl rfl (by decide +kernel) ⟨Nat.le_of_ble_eq_true rfl, Nat.le_of_ble_eq_true rfl⟩) hK hW hfs_ rfl rfl hl.1 rfl (Nat.le_of_ble_eq_true rfl) dL_isBook_1 ⟨by dsimp only; omega, by dsimp only; omega⟩ (fun v_ f_ H locs hp hW => ?_)
  obtain ⟨hpv, hpe⟩ := hp
  rw [hpe] at hW
  subst hpv
  have w_1 := wf_8 hI.1.1.1 0
  refine lv_aload_n hx hb dL_isBook_4 rfl (lv_at hl 1 rfl) ?_
  refine xi_iconst hx hb dL_isBook_5 ?_
  refine l_ild hx hb hK hF hW (i := 0) (by decide) (z := 0) (by omega) (by have e : ((lLen 0 : Nat) : Int) = 4 := rfl; omega) dL_isBook_6 ?_
  refine xi_icmp_ne (tgt := 24) hx hb ⟨by omega, by omega⟩ ⟨by omega, by omega⟩ dL_isBook_7 (by decide) (fun c_2 => ?_) (fun c_2 => ?_)
  · exfalso
    omega
  · refine lv_aload_n hx hb dL_isBook_10 rfl (lv_at hl 0 rfl) ?_
    obtain ⟨fs_, hfs_⟩ := wX_at hF
    refine g_callV (i := 100000) (As := []) (rest := []) K (x_entries hI.1.1.1 hF) (cwV 0 hts (gd_T gL_X11_entries) rfl rfl rfl (by decide +kernel) ⟨Nat.le_of_ble_eq_true rfl, Nat.le_of_ble_eq_true rfl⟩) hK hW hfs_ rfl rfl hl.1 rfl (Nat.le_of_ble_eq_true rfl) dL_isBook_11 ⟨by dsimp only; omega, by dsimp only; omega⟩ (fun v_ f_ H locs hp hW => ?_)
    obtain ⟨hpv, hpe⟩ := hp
    rw [hpe] at hW
    subst hpv
    have w_3 := wf_31 hI.1.1.1 0
    refine lv_aload_n hx hb dL_isBook_14 rfl (lv_at hl 1 rfl) ?_
    refine xi_iconst hx hb dL_isBook_15 ?_
    refine l_ild hx hb hK hF hW (i := 0) (by decide) (z := 2) (by omega) (by have e : ((lLen 0 : Nat) : Int) = 4 := rfl; omega) dL_isBook_16 ?_
    refine xi_icmp_lt (tgt := 24) hx hb ⟨by omega, by omega⟩ ⟨by omega, by omega⟩ dL_isBook_17 (by decide) (fun c_4 => ?_) (fun c_4 => ?_)
    · exfalso
      omega
    · refine xi_iconst hx hb dL_isBook_20 ?_
      refine lv_goto (tgt := 25) hx hb dL_isBook_21 (by decide) ?_
      refine lv_istore (lv' := [(7, .int (iI (1))), (0, .ref (x0)), (1, .ref (q 0)), (2, .ref (q 1)), (3, .ref (q 2)), (4, .ref (q 3)), (5, .ref (q 4)), (6, .ref (q 5))]) hx hb dL_isBook_25 hl (by decide) rfl (fun ls hl => ?_)
      refine xi_iconst hx hb dL_isBook_27 ?_
      refine lv_istore (lv' := [(8, .int (iI (0))), (7, .int (iI (1))), (0, .ref (x0)), (1, .ref (q 0)), (2, .ref (q 1)), (3, .ref (q 2)), (4, .ref (q 3)), (5, .ref (q 4)), (6, .ref (q 5))]) hx hb dL_isBook_28 hl (by decide) rfl (fun ls hl => ?_)
      refine W.widen (k := (fun (a : Int) => 56 * a.toNat) (0)) (n := (fun (a : Int) => 336 * a.toNat) (0)) (by dsimp only; omega) (by dsimp only; omega) ?_
      refine lp_v1 (Wg := fun (a : Int) (H : Heap) (locs : List Loc) (ls : Array Slot) => W p_ l e_ { frames := 9, cells := 3200, slots := 19200, locals := 174 } s_ m_ ([.ref (x0), .ref (q 0), .ref (q 1), .ref (q 2), .ref (q 3), .ref (q 4), .ref (q 5)] : List Value).toArray be_ me_ co_ H locs (56 * a.toNat) (336 * a.toNat) (MQ be_ (gQ D B0 (fun (r : Option Value) (g_ : gF) => r = some (.int (iI 1)) ∧ ∃ M1 : ST, wX D cy x0 S (lG cy q M1) g_ ∧ lM S S M1 ∧ M1.2 = M.2)) ([.ref (x0), .ref (q 0), .ref (q 1), .ref (q 2), .ref (q 3), .ref (q 4), .ref (q 5)] : List Value).toArray s_ 3200 19200 (fun q : Nat => B0 ≤ q)) (F0 m_ 30 ls [])) (fun (a : Int) (H : Heap) (locs : List Loc) (ls : Array Slot) => ∃ (f : gF), (0 ≤ a ∧ a ≤ 3) ∧ wX D cy x0 S (lG cy q M) f ∧ gW D B0 s_ f H locs ∧ lv_has ls 14 [(0, .ref (x0)), (1, .ref (q 0)), (2, .ref (q 1)), (3, .ref (q 2)), (4, .ref (q 3)), (5, .ref (q 4)), (6, .ref (q 5)), (7, .int (iI (1))), (8, .int (iI (a)))]) (fun (a : Int) => (3 - a).toNat) (fun a H locs ls hI_ ih_lp_5 => ?_) (0) H locs ls ⟨f, ⟨by omega, by omega⟩, hF, hW, lv_sub hl [2, 3, 4, 5, 6, 7, 8, 1, 0] rfl⟩
      obtain ⟨f, hc_lp_5, hF, hW, hl⟩ := hI_
      refine lv_iload hx hb dL_isBook_30 (lv_at hl 8 rfl) ?_
      refine xi_iconst hx hb dL_isBook_32 ?_
      refine xi_icmp_ge (tgt := 127) hx hb ⟨by omega, by omega⟩ ⟨by omega, by omega⟩ dL_isBook_33 (by decide) (fun c_6 => ?_) (fun c_6 => ?_)
      · refine lv_aload_n hx hb dL_isBook_127 rfl (lv_at hl 1 rfl) ?_
        refine xi_iconst hx hb dL_isBook_128 ?_
        refine l_ild hx hb hK hF hW (i := 0) (by decide) (z := 2) (by omega) (by have e : ((lLen 0 : Nat) : Int) = 4 := rfl; omega) dL_isBook_129 ?_
        refine lv_istore (lv' := [(8, .int (iI (M.1 0 2))), (0, .ref (x0)), (1, .ref (q 0)), (2, .ref (q 1)), (3, .ref (q 2)), (4, .ref (q 3)), (5, .ref (q 4)), (6, .ref (q 5)), (7, .int (iI (1)))]) hx hb dL_isBook_130 hl (by decide) rfl (fun ls hl => ?_)
        refine W.widen (k := (fun (k : Int) => 168 + 28 * (k - M.1 0 2).toNat) (M.1 0 2)) (n := (fun (k : Int) => 1008 + 168 * (k - M.1 0 2).toNat) (M.1 0 2)) (by dsimp only; omega) (by dsimp only; omega) ?_
        refine lp_v1 (Wg := fun (k : Int) (H : Heap) (locs : List Loc) (ls : Array Slot) => W p_ l e_ { frames := 9, cells := 3200, slots := 19200, locals := 174 } s_ m_ ([.ref (x0), .ref (q 0), .ref (q 1), .ref (q 2), .ref (q 3), .ref (q 4), .ref (q 5)] : List Value).toArray be_ me_ co_ H locs (168 + 28 * (k - M.1 0 2).toNat) (1008 + 168 * (k - M.1 0 2).toNat) (MQ be_ (gQ D B0 (fun (r : Option Value) (g_ : gF) => r = some (.int (iI 1)) ∧ ∃ M1 : ST, wX D cy x0 S (lG cy q M1) g_ ∧ lM S S M1 ∧ M1.2 = M.2)) ([.ref (x0), .ref (q 0), .ref (q 1), .ref (q 2), .ref (q 3), .ref (q 4), .ref (q 5)] : List Value).toArray s_ 3200 19200 (fun q : Nat => B0 ≤ q)) (F0 m_ 132 ls [])) (fun (k : Int) (H : Heap) (locs : List Loc) (ls : Array Slot) => ∃ (f : gF) (N : ST), (M.1 0 2 ≤ k ∧ k ≤ S.1 31 0 ∧ eSt S M N (M.1 0 2) k) ∧ wX D cy x0 S (lG cy q N) f ∧ gW D B0 s_ f H locs ∧ lv_has ls 14 [(0, .ref (x0)), (1, .ref (q 0)), (2, .ref (q 1)), (3, .ref (q 2)), (4, .ref (q 3)), (5, .ref (q 4)), (6, .ref (q 5)), (7, .int (iI (1))), (8, .int (iI (k)))]) (fun (k : Int) => (S.1 31 0 - k).toNat) (fun k H locs ls hI_ ih_lp_7 => ?_) (M.1 0 2) H locs ls ⟨f, M, ⟨by omega, by omega, eSt_0 S M _⟩, hF, hW, lv_sub hl [1, 2, 3, 4, 5, 6, 7, 8, 0] rfl⟩
        obtain ⟨f, N, hc_lp_7, hF, hW, hl⟩ := hI_
        have hN := hc_lp_7.2.2
        have hk1 := hc_lp_7.1
        have hk2 := hc_lp_7.2.1
        have n0 : ∀ z : Int, N.1 0 z = M.1 0 z := fun z => by rw [hN.1 0 (by decide)]
        have n1 : ∀ z : Int, N.1 1 z = M.1 1 z := fun z => by rw [hN.1 1 (by decide)]
        have n2 : ∀ z : Int, N.1 2 z = M.1 2 z := fun z => by rw [hN.1 2 (by decide)]
        refine lv_iload hx hb dL_isBook_132 (lv_at hl 8 rfl) ?_
        refine lv_aload_n hx hb dL_isBook_134 rfl (lv_at hl 0 rfl) ?_
        obtain ⟨fs_, hfs_⟩ := wX_at hF
        refine g_callV (i := 100000) (As := []) (rest := [.int (iI (k))]) K (x_entries hI.1.1.1 hF) (cwV 0 hts (gd_T gL_X11_entries) rfl rfl rfl (by decide +kernel) ⟨Nat.le_of_ble_eq_true rfl, Nat.le_of_ble_eq_true rfl⟩) hK hW hfs_ rfl rfl hl.1 rfl (Nat.le_of_ble_eq_true rfl) dL_isBook_135 ⟨by dsimp only; omega, by dsimp only; omega⟩ (fun v_ f_ H locs hp hW => ?_)
        obtain ⟨hpv, hpe⟩ := hp
        rw [hpe] at hW
        subst hpv
        have w_8 := wf_31 hI.1.1.1 0
        refine xi_icmp_ge (tgt := 298) hx hb ⟨by omega, by omega⟩ ⟨by omega, by omega⟩ dL_isBook_138 (by decide) (fun c_9 => ?_) (fun c_9 => ?_)
        · have ek : k = S.1 31 0 := by omega
          rw [ek] at hN
          refine lv_aload_n hx hb dL_isBook_298 rfl (lv_at hl 1 rfl) ?_
          refine xi_iconst hx hb dL_isBook_299 ?_
          refine lv_aload_n hx hb dL_isBook_300 rfl (lv_at hl 0 rfl) ?_
          obtain ⟨fs_, hfs_⟩ := wX_at hF
          refine g_callV (i := 100000) (As := []) (rest := [.int (iI (2)), .ref (q 0)]) K (x_entries hI.1.1.1 hF) (cwV 0 hts (gd_T gL_X11_entries) rfl rfl rfl (by decide +kernel) ⟨Nat.le_of_ble_eq_true rfl, Nat.le_of_ble_eq_true rfl⟩) hK hW hfs_ rfl rfl hl.1 rfl (Nat.le_of_ble_eq_true rfl) dL_isBook_301 ⟨by dsimp only; omega, by dsimp only; omega⟩ (fun v_ f_ H locs hp hW => ?_)
          obtain ⟨hpv, hpe⟩ := hp
          rw [hpe] at hW
          subst hpv
          have w_10 := wf_31 hI.1.1.1 0
          refine l_ist hx hb hK hF hW (i := 0) (by decide) (z := 2) (v := S.1 31 0) (by omega) (by have e : ((lLen 0 : Nat) : Int) = 4 := rfl; omega) dL_isBook_304 (fun f H locs hF hW => ?_)
          refine xi_iconst hx hb dL_isBook_305 ?_
          refine lv_istore (lv' := [(8, .int (iI (0))), (0, .ref (x0)), (1, .ref (q 0)), (2, .ref (q 1)), (3, .ref (q 2)), (4, .ref (q 3)), (5, .ref (q 4)), (6, .ref (q 5)), (7, .int (iI (1)))]) hx hb dL_isBook_306 hl (by decide) rfl (fun ls hl => ?_)
          refine W.widen (k := (fun (i : Int) => 168 + 28 * (k - M.1 0 2).toNat + 4 * i.toNat) (0)) (n := (fun (i : Int) => 1008 + 168 * (k - M.1 0 2).toNat + 24 * i.toNat) (0)) (by dsimp only; omega) (by dsimp only; omega) ?_
          refine lp_v1 (Wg := fun (i : Int) (H : Heap) (locs : List Loc) (ls : Array Slot) => W p_ l e_ { frames := 9, cells := 3200, slots := 19200, locals := 174 } s_ m_ ([.ref (x0), .ref (q 0), .ref (q 1), .ref (q 2), .ref (q 3), .ref (q 4), .ref (q 5)] : List Value).toArray be_ me_ co_ H locs (168 + 28 * (k - M.1 0 2).toNat + 4 * i.toNat) (1008 + 168 * (k - M.1 0 2).toNat + 24 * i.toNat) (MQ be_ (gQ D B0 (fun (r : Option Value) (g_ : gF) => r = some (.int (iI 1)) ∧ ∃ M1 : ST, wX D cy x0 S (lG cy q M1) g_ ∧ lM S S M1 ∧ M1.2 = M.2)) ([.ref (x0), .ref (q 0), .ref (q 1), .ref (q 2), .ref (q 3), .ref (q 4), .ref (q 5)] : List Value).toArray s_ 3200 19200 (fun q : Nat => B0 ≤ q)) (F0 m_ 308 ls [])) (fun (i : Int) (H : Heap) (locs : List Loc) (ls : Array Slot) => ∃ (f : gF) (P : ST), (0 ≤ i ∧ i ≤ S.1 8 0 ∧ pSt S (pI N 0 2 (S.1 31 0)) P i) ∧ wX D cy x0 S (lG cy q P) f ∧ gW D B0 s_ f H locs ∧ lv_has ls 14 [(0, .ref (x0)), (1, .ref (q 0)), (2, .ref (q 1)), (3, .ref (q 2)), (4, .ref (q 3)), (5, .ref (q 4)), (6, .ref (q 5)), (7, .int (iI (1))), (8, .int (iI (i)))]) (fun (i : Int) => (S.1 8 0 - i).toNat) (fun i H locs ls hI_ ih_lp_11 => ?_) (0) H locs ls ⟨f, (pI N 0 2 (S.1 31 0)), ⟨by omega, by omega, pSt_0 _ _⟩, hF, hW, lv_sub hl [1, 2, 3, 4, 5, 6, 7, 8, 0] rfl⟩
          obtain ⟨f, P, hc_lp_11, hF, hW, hl⟩ := hI_
          have hP := hc_lp_11.2.2
          have hj1 := hc_lp_11.1
          have hj2 := hc_lp_11.2.1
          have p0 : P.1 0 0 = M.1 0 0 := by rw [hP.1 0 (by decide), pI_n _ _ _ _ (Or.inr (by decide)), n0]
          refine lv_iload hx hb dL_isBook_308 (lv_at hl 8 rfl) ?_
          refine lv_aload_n hx hb dL_isBook_310 rfl (lv_at hl 1 rfl) ?_
          refine xi_iconst hx hb dL_isBook_311 ?_
          refine l_ild hx hb hK hF hW (i := 0) (by decide) (z := 0) (by omega) (by have e : ((lLen 0 : Nat) : Int) = 4 := rfl; omega) dL_isBook_312 ?_
          refine xi_icmp_ge (tgt := 403) hx hb ⟨by omega, by omega⟩ ⟨by omega, by omega⟩ dL_isBook_313 (by decide) (fun c_12 => ?_) (fun c_12 => ?_)
          · have ei : i = S.1 8 0 := by omega
            rw [ei] at hP
            refine lv_iload hx hb dL_isBook_403 (lv_at hl 7 rfl) ?_
            exact W.widen (by omega) (by omega) (g_zret hx hb hr (Or.inr rfl) hW ⟨rfl, P, hF, book_end hI.1.1.1 (ent_far hI.1.1.1 hw0 hk.1 he hM hN) hM hN hP⟩ dL_isBook_405 hlk)
          · refine lv_iload hx hb dL_isBook_316 (lv_at hl 7 rfl) ?_
            refine xi_if_eq (tgt := 403) hx hb ⟨by omega, by omega⟩ dL_isBook_318 (by decide) (fun c_13 => ?_) (fun c_13 => ?_)
            · exfalso
              omega
            · refine lv_aload_n hx hb dL_isBook_321 rfl (lv_at hl 0 rfl) ?_
              refine lv_iload hx hb dL_isBook_322 (lv_at hl 8 rfl) ?_
              refine g_xcallSH (As := [.ref (x0), .int (iI (i))]) (rest := []) K (c_L_stateOf (by omega) hI hst (lG_n (by decide)) (lG_n (by decide)) (lG_n (by decide)) hF (i) ⟨by omega, by omega⟩) (vx_cwSW 2 hts (gd_T gL_L_stateOf) rfl rfl rfl (by decide +kernel) ⟨Nat.le_of_ble_eq_true rfl, Nat.le_of_ble_eq_true rfl⟩) hK hW rfl hl.1 rfl (Nat.le_of_ble_eq_true rfl) dL_isBook_324 ⟨by dsimp only; omega, by dsimp only; omega⟩ (fun v_ f H locs hp hW => ?_)
              rw [a_state (S := S) (k := (i)) (by omega) (by omega)] at hp
              obtain ⟨hpv, hF⟩ : v_ = some (.int (iI (S.1 18 (i)))) ∧ wX D cy x0 S (lG cy q P) f := hp
              subst hpv
              have w_14 := wf_18 hI.1.1.1 (i)
              obtain ⟨v1, v2, v3, v4⟩ := ent_iff hw0 hE0 hI.1.1.1 hk.1 hk.2.2.1 he hM hN (i := i) hj1 (by omega)
              have v5 : P.1 4 i = N.1 4 i := by rw [hP.2.2 i hj1 (by omega), if_neg (by omega), pI_f _ _ _ (by decide)]
              have v6 : N.1 4 i < 5 ∨ S.1 18 i = 5 := by
                by_cases e : N.1 4 i = 5
                · exact Or.inr (v2 e)
                · exact Or.inl (by omega)
              refine lv_istore (lv' := [(9, .int (iI (S.1 18 (i)))), (0, .ref (x0)), (1, .ref (q 0)), (2, .ref (q 1)), (3, .ref (q 2)), (4, .ref (q 3)), (5, .ref (q 4)), (6, .ref (q 5)), (7, .int (iI (1))), (8, .int (iI (i)))]) hx hb dL_isBook_327 hl (by decide) rfl (fun ls hl => ?_)
              refine lv_iload hx hb dL_isBook_329 (lv_at hl 0 rfl) ?_
              refine xi_if_lt (tgt := 387) hx hb ⟨by omega, by omega⟩ dL_isBook_331 (by decide) (fun c_15 => ?_) (fun c_15 => ?_)
              · exfalso
                omega
              · refine lv_iload hx hb dL_isBook_334 (lv_at hl 0 rfl) ?_
                refine xi_iconst hx hb dL_isBook_336 ?_
                refine xi_icmp_gt (tgt := 387) hx hb ⟨by omega, by omega⟩ ⟨by omega, by omega⟩ dL_isBook_337 (by decide) (fun c_16 => ?_) (fun c_16 => ?_)
                · exfalso
                  omega
                · refine lv_aload hx hb dL_isBook_340 (lv_at hl 6 rfl) ?_
                  refine lv_iload hx hb dL_isBook_342 (lv_at hl 9 rfl) ?_
                  refine l_ild hx hb hK hF hW (i := 4) (by decide) (z := i) (by omega) (by have e : ((lLen 4 : Nat) : Int) = 60 := rfl; omega) dL_isBook_344 ?_
                  refine xi_iconst hx hb dL_isBook_345 ?_
                  refine xi_icmp_ne (tgt := 353) hx hb ⟨by omega, by omega⟩ ⟨by omega, by omega⟩ dL_isBook_346 (by decide) (fun c_17 => ?_) (fun c_17 => ?_)
                  · refine xi_iconst hx hb dL_isBook_353 ?_
                    refine lv_iload hx hb dL_isBook_354 (lv_at hl 0 rfl) ?_
                    refine xi_iconst hx hb dL_isBook_356 ?_
                    refine xi_icmp_ne (tgt := 364) hx hb ⟨by omega, by omega⟩ ⟨by omega, by omega⟩ dL_isBook_357 (by decide) (fun c_18 => ?_) (fun c_18 => ?_)
                    · refine xi_iconst hx hb dL_isBook_364 ?_
                      refine xi_icmp_ne (tgt := 387) hx hb ⟨by omega, by omega⟩ ⟨by omega, by omega⟩ dL_isBook_365 (by decide) (fun c_19 => ?_) (fun c_19 => ?_)
                      · exfalso
                        omega
                      · refine lv_aload hx hb dL_isBook_368 (lv_at hl 6 rfl) ?_
                        refine lv_iload hx hb dL_isBook_370 (lv_at hl 9 rfl) ?_
                        refine l_ild hx hb hK hF hW (i := 4) (by decide) (z := i) (by omega) (by have e : ((lLen 4 : Nat) : Int) = 60 := rfl; omega) dL_isBook_372 ?_
                        refine xi_iconst hx hb dL_isBook_373 ?_
                        refine xi_icmp_ne (tgt := 383) hx hb ⟨by omega, by omega⟩ ⟨by omega, by omega⟩ dL_isBook_374 (by decide) (fun c_20 => ?_) (fun c_20 => ?_)
                        · refine xi_iconst hx hb dL_isBook_383 ?_
                          refine lv_goto (tgt := 388) hx hb dL_isBook_384 (by decide) ?_
                          refine lv_istore (lv' := [(7, .int (iI (1))), (9, .int (iI (S.1 18 (i)))), (0, .ref (x0)), (1, .ref (q 0)), (2, .ref (q 1)), (3, .ref (q 2)), (4, .ref (q 3)), (5, .ref (q 4)), (6, .ref (q 5)), (8, .int (iI (i)))]) hx hb dL_isBook_388 hl (by decide) rfl (fun ls hl => ?_)
                          refine lv_aload hx hb dL_isBook_390 (lv_at hl 7 rfl) ?_
                          refine lv_iload hx hb dL_isBook_392 (lv_at hl 9 rfl) ?_
                          refine lv_iload hx hb dL_isBook_394 (lv_at hl 1 rfl) ?_
                          refine l_ist hx hb hK hF hW (i := 4) (by decide) (z := i) (v := S.1 18 (i)) (by omega) (by have e : ((lLen 4 : Nat) : Int) = 60 := rfl; omega) dL_isBook_396 (fun f H locs hF hW => ?_)
                          refine xi_iinc (lv' := [(8, .int (iI (i + 1))), (7, .int (iI (1))), (9, .int (iI (S.1 18 (i)))), (0, .ref (x0)), (1, .ref (q 0)), (2, .ref (q 1)), (3, .ref (q 2)), (4, .ref (q 3)), (5, .ref (q 4)), (6, .ref (q 5))]) hx hb dL_isBook_397 hl (k := 9) rfl (by decide) rfl (fun ls hl => ?_)
                          refine lv_goto (tgt := 308) hx hb dL_isBook_400 (by decide) ?_
                          exact W.widen (by omega) (by omega) (ih_lp_11 (i + 1) H locs ls (by omega) ⟨f, pI P 4 i (S.1 18 i), ⟨by omega, by omega, pSt_s hP (by omega)⟩, hF, hW, lv_sub hl [3, 4, 5, 6, 7, 8, 9, 1, 0] rfl⟩)
                        · refine lv_iload hx hb dL_isBook_377 (lv_at hl 0 rfl) ?_
                          refine xi_iconst hx hb dL_isBook_379 ?_
                          refine xi_icmp_ne (tgt := 387) hx hb ⟨by omega, by omega⟩ ⟨by omega, by omega⟩ dL_isBook_380 (by decide) (fun c_21 => ?_) (fun c_21 => ?_)
                          · exfalso
                            omega
                          · refine xi_iconst hx hb dL_isBook_383 ?_
                            refine lv_goto (tgt := 388) hx hb dL_isBook_384 (by decide) ?_
                            refine lv_istore (lv' := [(7, .int (iI (1))), (9, .int (iI (S.1 18 (i)))), (0, .ref (x0)), (1, .ref (q 0)), (2, .ref (q 1)), (3, .ref (q 2)), (4, .ref (q 3)), (5, .ref (q 4)), (6, .ref (q 5)), (8, .int (iI (i)))]) hx hb dL_isBook_388 hl (by decide) rfl (fun ls hl => ?_)
                            refine lv_aload hx hb dL_isBook_390 (lv_at hl 7 rfl) ?_
                            refine lv_iload hx hb dL_isBook_392 (lv_at hl 9 rfl) ?_
                            refine lv_iload hx hb dL_isBook_394 (lv_at hl 1 rfl) ?_
                            refine l_ist hx hb hK hF hW (i := 4) (by decide) (z := i) (v := S.1 18 (i)) (by omega) (by have e : ((lLen 4 : Nat) : Int) = 60 := rfl; omega) dL_isBook_396 (fun f H locs hF hW => ?_)
                            refine xi_iinc (lv' := [(8, .int (iI (i + 1))), (7, .int (iI (1))), (9, .int (iI (S.1 18 (i)))), (0, .ref (x0)), (1, .ref (q 0)), (2, .ref (q 1)), (3, .ref (q 2)), (4, .ref (q 3)), (5, .ref (q 4)), (6, .ref (q 5))]) hx hb dL_isBook_397 hl (k := 9) rfl (by decide) rfl (fun ls hl => ?_)
                            refine lv_goto (tgt := 308) hx hb dL_isBook_400 (by decide) ?_
                            exact W.widen (by omega) (by omega) (ih_lp_11 (i + 1) H locs ls (by omega) ⟨f, pI P 4 i (S.1 18 i), ⟨by omega, by omega, pSt_s hP (by omega)⟩, hF, hW, lv_sub hl [3, 4, 5, 6, 7, 8, 9, 1, 0] rfl⟩)
                    · refine xi_iconst hx hb dL_isBook_360 ?_
                      refine lv_goto (tgt := 365) hx hb dL_isBook_361 (by decide) ?_
                      refine xi_icmp_ne (tgt := 387) hx hb ⟨by omega, by omega⟩ ⟨by omega, by omega⟩ dL_isBook_365 (by decide) (fun c_22 => ?_) (fun c_22 => ?_)
                      · exfalso
                        omega
                      · exfalso
                        omega
                  · refine xi_iconst hx hb dL_isBook_349 ?_
                    refine lv_goto (tgt := 354) hx hb dL_isBook_350 (by decide) ?_
                    refine lv_iload hx hb dL_isBook_354 (lv_at hl 0 rfl) ?_
                    refine xi_iconst hx hb dL_isBook_356 ?_
                    refine xi_icmp_ne (tgt := 364) hx hb ⟨by omega, by omega⟩ ⟨by omega, by omega⟩ dL_isBook_357 (by decide) (fun c_23 => ?_) (fun c_23 => ?_)
                    · refine xi_iconst hx hb dL_isBook_364 ?_
                      refine xi_icmp_ne (tgt := 387) hx hb ⟨by omega, by omega⟩ ⟨by omega, by omega⟩ dL_isBook_365 (by decide) (fun c_24 => ?_) (fun c_24 => ?_)
                      · exfalso
                        omega
                      · exfalso
                        omega
                    · refine xi_iconst hx hb dL_isBook_360 ?_
                      refine lv_goto (tgt := 365) hx hb dL_isBook_361 (by decide) ?_
                      refine xi_icmp_ne (tgt := 387) hx hb ⟨by omega, by omega⟩ ⟨by omega, by omega⟩ dL_isBook_365 (by decide) (fun c_25 => ?_) (fun c_25 => ?_)
                      · exfalso
                        omega
                      · refine lv_aload hx hb dL_isBook_368 (lv_at hl 6 rfl) ?_
                        refine lv_iload hx hb dL_isBook_370 (lv_at hl 9 rfl) ?_
                        refine l_ild hx hb hK hF hW (i := 4) (by decide) (z := i) (by omega) (by have e : ((lLen 4 : Nat) : Int) = 60 := rfl; omega) dL_isBook_372 ?_
                        refine xi_iconst hx hb dL_isBook_373 ?_
                        refine xi_icmp_ne (tgt := 383) hx hb ⟨by omega, by omega⟩ ⟨by omega, by omega⟩ dL_isBook_374 (by decide) (fun c_26 => ?_) (fun c_26 => ?_)
                        · refine xi_iconst hx hb dL_isBook_383 ?_
                          refine lv_goto (tgt := 388) hx hb dL_isBook_384 (by decide) ?_
                          refine lv_istore (lv' := [(7, .int (iI (1))), (9, .int (iI (S.1 18 (i)))), (0, .ref (x0)), (1, .ref (q 0)), (2, .ref (q 1)), (3, .ref (q 2)), (4, .ref (q 3)), (5, .ref (q 4)), (6, .ref (q 5)), (8, .int (iI (i)))]) hx hb dL_isBook_388 hl (by decide) rfl (fun ls hl => ?_)
                          refine lv_aload hx hb dL_isBook_390 (lv_at hl 7 rfl) ?_
                          refine lv_iload hx hb dL_isBook_392 (lv_at hl 9 rfl) ?_
                          refine lv_iload hx hb dL_isBook_394 (lv_at hl 1 rfl) ?_
                          refine l_ist hx hb hK hF hW (i := 4) (by decide) (z := i) (v := S.1 18 (i)) (by omega) (by have e : ((lLen 4 : Nat) : Int) = 60 := rfl; omega) dL_isBook_396 (fun f H locs hF hW => ?_)
                          refine xi_iinc (lv' := [(8, .int (iI (i + 1))), (7, .int (iI (1))), (9, .int (iI (S.1 18 (i)))), (0, .ref (x0)), (1, .ref (q 0)), (2, .ref (q 1)), (3, .ref (q 2)), (4, .ref (q 3)), (5, .ref (q 4)), (6, .ref (q 5))]) hx hb dL_isBook_397 hl (k := 9) rfl (by decide) rfl (fun ls hl => ?_)
                          refine lv_goto (tgt := 308) hx hb dL_isBook_400 (by decide) ?_
                          exact W.widen (by omega) (by omega) (ih_lp_11 (i + 1) H locs ls (by omega) ⟨f, pI P 4 i (S.1 18 i), ⟨by omega, by omega, pSt_s hP (by omega)⟩, hF, hW, lv_sub hl [3, 4, 5, 6, 7, 8, 9, 1, 0] rfl⟩)
                        · refine lv_iload hx hb dL_isBook_377 (lv_at hl 0 rfl) ?_
                          refine xi_iconst hx hb dL_isBook_379 ?_
                          refine xi_icmp_ne (tgt := 387) hx hb ⟨by omega, by omega⟩ ⟨by omega, by omega⟩ dL_isBook_380 (by decide) (fun c_27 => ?_) (fun c_27 => ?_)
                          · exfalso
                            omega
                          · refine xi_iconst hx hb dL_isBook_383 ?_
                            refine lv_goto (tgt := 388) hx hb dL_isBook_384 (by decide) ?_
                            refine lv_istore (lv' := [(7, .int (iI (1))), (9, .int (iI (S.1 18 (i)))), (0, .ref (x0)), (1, .ref (q 0)), (2, .ref (q 1)), (3, .ref (q 2)), (4, .ref (q 3)), (5, .ref (q 4)), (6, .ref (q 5)), (8, .int (iI (i)))]) hx hb dL_isBook_388 hl (by decide) rfl (fun ls hl => ?_)
                            refine lv_aload hx hb dL_isBook_390 (lv_at hl 7 rfl) ?_
                            refine lv_iload hx hb dL_isBook_392 (lv_at hl 9 rfl) ?_
                            refine lv_iload hx hb dL_isBook_394 (lv_at hl 1 rfl) ?_
                            refine l_ist hx hb hK hF hW (i := 4) (by decide) (z := i) (v := S.1 18 (i)) (by omega) (by have e : ((lLen 4 : Nat) : Int) = 60 := rfl; omega) dL_isBook_396 (fun f H locs hF hW => ?_)
                            refine xi_iinc (lv' := [(8, .int (iI (i + 1))), (7, .int (iI (1))), (9, .int (iI (S.1 18 (i)))), (0, .ref (x0)), (1, .ref (q 0)), (2, .ref (q 1)), (3, .ref (q 2)), (4, .ref (q 3)), (5, .ref (q 4)), (6, .ref (q 5))]) hx hb dL_isBook_397 hl (k := 9) rfl (by decide) rfl (fun ls hl => ?_)
                            refine lv_goto (tgt := 308) hx hb dL_isBook_400 (by decide) ?_
                            exact W.widen (by omega) (by omega) (ih_lp_11 (i + 1) H locs ls (by omega) ⟨f, pI P 4 i (S.1 18 i), ⟨by omega, by omega, pSt_s hP (by omega)⟩, hF, hW, lv_sub hl [3, 4, 5, 6, 7, 8, 9, 1, 0] rfl⟩)
        · refine lv_iload hx hb dL_isBook_141 (lv_at hl 7 rfl) ?_
          refine xi_if_eq (tgt := 298) hx hb ⟨by omega, by omega⟩ dL_isBook_143 (by decide) (fun c_28 => ?_) (fun c_28 => ?_)
          · exfalso
            omega
          · refine lv_aload_n hx hb dL_isBook_146 rfl (lv_at hl 0 rfl) ?_
            refine lv_iload hx hb dL_isBook_147 (lv_at hl 8 rfl) ?_
            refine xi_iconst hx hb dL_isBook_149 ?_
            refine g_xcallSH (As := [.ref (x0), .int (iI (k)), .int (iI (4))]) (rest := []) K (c_L_entryAt (by omega) hI hst (lG_n (by decide)) (lG_n (by decide)) (lG_n (by decide)) hF (k) (4) ⟨by omega, by omega⟩ ⟨by omega, by omega⟩) (vx_cwSW 3 hts (gd_T gL_L_entryAt) rfl rfl rfl (by decide +kernel) ⟨Nat.le_of_ble_eq_true rfl, Nat.le_of_ble_eq_true rfl⟩) hK hW rfl hl.1 rfl (Nat.le_of_ble_eq_true rfl) dL_isBook_150 ⟨by dsimp only; omega, by dsimp only; omega⟩ (fun v_ f H locs hp hW => ?_)
            rw [a_ent (S := S) (k := (k)) (j := (4)) (by omega) (by omega)] at hp
            obtain ⟨hpv, hF⟩ : v_ = some (.long (S.2 32 (5 * (k) + (4)))) ∧ wX D cy x0 S (lG cy q N) f := hp
            subst hpv
            obtain ⟨its, hi4, hi3, hia, hib, hic⟩ := ent_its hI.1.1.1 hk.1 (k := k) (by omega) (by omega)
            refine xl_eq hi4 ?_
            refine xi_l2i hx hb dL_isBook_153 ?_
            refine lv_istore (lv' := [(9, .int (iI (its))), (0, .ref (x0)), (1, .ref (q 0)), (2, .ref (q 1)), (3, .ref (q 2)), (4, .ref (q 3)), (5, .ref (q 4)), (6, .ref (q 5)), (7, .int (iI (1))), (8, .int (iI (k)))]) hx hb dL_isBook_154 hl (by decide) rfl (fun ls hl => ?_)
            refine lv_aload_n hx hb dL_isBook_156 rfl (lv_at hl 1 rfl) ?_
            refine lv_iload hx hb dL_isBook_157 (lv_at hl 9 rfl) ?_
            refine xi_iconst hx hb dL_isBook_159 ?_
            refine g_xcallSH (As := [.ref (x0), .int (iI (k)), .int (iI (3))]) (rest := []) K (c_L_entryAt (by omega) hI hst (lG_n (by decide)) (lG_n (by decide)) (lG_n (by decide)) hF (k) (3) ⟨by omega, by omega⟩ ⟨by omega, by omega⟩) (vx_cwSW 3 hts (gd_T gL_L_entryAt) rfl rfl rfl (by decide +kernel) ⟨Nat.le_of_ble_eq_true rfl, Nat.le_of_ble_eq_true rfl⟩) hK hW rfl hl.1 rfl (Nat.le_of_ble_eq_true rfl) dL_isBook_160 ⟨by dsimp only; omega, by dsimp only; omega⟩ (fun v_ f H locs hp hW => ?_)
            rw [a_ent (S := S) (k := (k)) (j := (3)) (by omega) (by omega)] at hp
            obtain ⟨hpv, hF⟩ : v_ = some (.long (S.2 32 (5 * (k) + (3)))) ∧ wX D cy x0 S (lG cy q N) f := hp
            subst hpv
            refine lv_lconst (v := 0) hx hb dL_isBook_163 (by decide) ?_
            refine xi_lcmp_le (tgt := 273) hx hb dL_isBook_164 dL_isBook_165 (by decide) (fun c_29 => ?_) (fun c_29 => ?_)
            · exact absurd hi3 c_29
            · refine lv_iload hx hb dL_isBook_168 (lv_at hl 0 rfl) ?_
              refine xi_iconst hx hb dL_isBook_170 ?_
              refine xi_icmp_eq (tgt := 269) hx hb ⟨by omega, by omega⟩ ⟨by omega, by omega⟩ dL_isBook_171 (by decide) (fun c_30 => ?_) (fun c_30 => ?_)
              · refine xi_iconst hx hb dL_isBook_269 ?_
                refine lv_goto (tgt := 274) hx hb dL_isBook_270 (by decide) ?_
                refine lv_istore (lv' := [(7, .int (iI (1))), (9, .int (iI (its))), (0, .ref (x0)), (1, .ref (q 0)), (2, .ref (q 1)), (3, .ref (q 2)), (4, .ref (q 3)), (5, .ref (q 4)), (6, .ref (q 5)), (8, .int (iI (k)))]) hx hb dL_isBook_274 hl (by decide) rfl (fun ls hl => ?_)
                refine lv_iload hx hb dL_isBook_276 (lv_at hl 0 rfl) ?_
                refine xi_if_eq (tgt := 292) hx hb ⟨by omega, by omega⟩ dL_isBook_278 (by decide) (fun c_31 => ?_) (fun c_31 => ?_)
                · exfalso
                  omega
                · refine lv_iload hx hb dL_isBook_281 (lv_at hl 1 rfl) ?_
                  refine xi_if_lt (tgt := 292) hx hb ⟨by omega, by omega⟩ dL_isBook_283 (by decide) (fun c_32 => ?_) (fun c_32 => ?_)
                  · refine xi_iinc (lv' := [(8, .int (iI (k + 1))), (7, .int (iI (1))), (9, .int (iI (its))), (0, .ref (x0)), (1, .ref (q 0)), (2, .ref (q 1)), (3, .ref (q 2)), (4, .ref (q 3)), (5, .ref (q 4)), (6, .ref (q 5))]) hx hb dL_isBook_292 hl (k := 9) rfl (by decide) rfl (fun ls hl => ?_)
                    refine lv_goto (tgt := 132) hx hb dL_isBook_295 (by decide) ?_
                    exact W.widen (by omega) (by omega) (ih_lp_7 (k + 1) H locs ls (by omega) ⟨f, N, ⟨by omega, by omega, eSt_neg hN (hi4.trans (congrArg Int64.ofInt (by omega)))⟩, hF, hW, lv_sub hl [3, 4, 5, 6, 7, 8, 9, 1, 0] rfl⟩)
                  · exfalso
                    omega
              · rcases hic with hic | ⟨i0, i1, i4, iA, iB, iC, iD⟩
                · exfalso; omega
                have hlt := ent_lt hw0 hE0 hH0 hk.2.1 he hM hN hk1 (by omega) i0 (by omega) i4 hi4
                have m1 := hM.2.2.2.1 its i0 i1
                have nn1 := n1 its
                have nn2 := n2 its
                have v9 := wf_9 hI.1.1.1 its
                have v10 := wf_10 hI.1.1.1 its
                have v11 := wf_11 hI.1.1.1 its
                have vT := hk.2.2.2.2.2.2.2.1 its i0 i1
                have q0 : S.2 32 (5 * k + 0) = Int64.ofInt (N.1 1 its / 8) := by rw [show 5 * k + 0 = 5 * k by omega, iA, show N.1 1 its / 8 = S.1 9 its by omega]
                have q1 : S.2 32 (5 * k + 1) = Int64.ofInt (N.1 1 its % 8) := by rw [iB, show N.1 1 its % 8 = S.1 10 its by omega]
                have q2 : S.2 32 (5 * k + 2) = Int64.ofInt (N.1 2 its / 64) := by rw [iC, show N.1 2 its / 64 = S.1 11 its by omega]
                have q3 : S.2 32 (5 * k + 3) = Int64.ofInt (N.1 2 its % 64) := by rw [iD, show N.1 2 its % 64 = S.1 12 its by omega]
                refine lv_aload hx hb dL_isBook_174 (lv_at hl 6 rfl) ?_
                refine lv_iload hx hb dL_isBook_176 (lv_at hl 0 rfl) ?_
                refine l_ild hx hb hK hF hW (i := 4) (by decide) (z := its) (by omega) (by have e : ((lLen 4 : Nat) : Int) = 60 := rfl; omega) dL_isBook_178 ?_
                refine xi_iconst hx hb dL_isBook_179 ?_
                refine xi_icmp_ge (tgt := 273) hx hb ⟨by omega, by omega⟩ ⟨by omega, by omega⟩ dL_isBook_180 (by decide) (fun c_33 => ?_) (fun c_33 => ?_)
                · exfalso
                  omega
                · refine lv_aload_n hx hb dL_isBook_183 rfl (lv_at hl 1 rfl) ?_
                  refine lv_iload hx hb dL_isBook_184 (lv_at hl 0 rfl) ?_
                  refine g_xcallSH (As := [.ref (x0), .int (iI (its))]) (rest := []) K (c_L_stateOf (by omega) hI hst (lG_n (by decide)) (lG_n (by decide)) (lG_n (by decide)) hF (its) ⟨by omega, by omega⟩) (vx_cwSW 2 hts (gd_T gL_L_stateOf) rfl rfl rfl (by decide +kernel) ⟨Nat.le_of_ble_eq_true rfl, Nat.le_of_ble_eq_true rfl⟩) hK hW rfl hl.1 rfl (Nat.le_of_ble_eq_true rfl) dL_isBook_186 ⟨by dsimp only; omega, by dsimp only; omega⟩ (fun v_ f H locs hp hW => ?_)
                  rw [a_state (S := S) (k := (its)) (by omega) (by omega)] at hp
                  obtain ⟨hpv, hF⟩ : v_ = some (.int (iI (S.1 18 (its)))) ∧ wX D cy x0 S (lG cy q N) f := hp
                  subst hpv
                  have w_34 := wf_18 hI.1.1.1 (its)
                  refine xi_iconst hx hb dL_isBook_189 ?_
                  refine xi_icmp_ne (tgt := 273) hx hb ⟨by omega, by omega⟩ ⟨by omega, by omega⟩ dL_isBook_190 (by decide) (fun c_35 => ?_) (fun c_35 => ?_)
                  · exfalso
                    omega
                  · refine lv_aload_n hx hb dL_isBook_193 rfl (lv_at hl 1 rfl) ?_
                    refine lv_iload hx hb dL_isBook_194 (lv_at hl 9 rfl) ?_
                    refine xi_iconst hx hb dL_isBook_196 ?_
                    refine g_xcallSH (As := [.ref (x0), .int (iI (k)), .int (iI (0))]) (rest := []) K (c_L_entryAt (by omega) hI hst (lG_n (by decide)) (lG_n (by decide)) (lG_n (by decide)) hF (k) (0) ⟨by omega, by omega⟩ ⟨by omega, by omega⟩) (vx_cwSW 3 hts (gd_T gL_L_entryAt) rfl rfl rfl (by decide +kernel) ⟨Nat.le_of_ble_eq_true rfl, Nat.le_of_ble_eq_true rfl⟩) hK hW rfl hl.1 rfl (Nat.le_of_ble_eq_true rfl) dL_isBook_197 ⟨by dsimp only; omega, by dsimp only; omega⟩ (fun v_ f H locs hp hW => ?_)
                    rw [a_ent (S := S) (k := (k)) (j := (0)) (by omega) (by omega)] at hp
                    obtain ⟨hpv, hF⟩ : v_ = some (.long (S.2 32 (5 * (k) + (0)))) ∧ wX D cy x0 S (lG cy q N) f := hp
                    subst hpv
                    refine lv_aload_n hx hb dL_isBook_200 rfl (lv_at hl 3 rfl) ?_
                    refine lv_iload hx hb dL_isBook_201 (lv_at hl 0 rfl) ?_
                    refine l_ild hx hb hK hF hW (i := 1) (by decide) (z := its) (by omega) (by have e : ((lLen 1 : Nat) : Int) = 60 := rfl; omega) dL_isBook_203 ?_
                    refine xi_bipush hx hb dL_isBook_204 (by decide) ?_
                    refine xi_idiv hx hb ⟨by omega, by omega⟩ ⟨by omega, by omega⟩ dL_isBook_206 ?_
                    refine xi_i2l hx hb ⟨by omega, by omega⟩ dL_isBook_207 ?_
                    refine xi_lcmp_ne (tgt := 273) hx hb dL_isBook_208 dL_isBook_209 (by decide) (fun c_36 => ?_) (fun c_36 => ?_)
                    · exact absurd q0 c_36
                    · refine lv_aload_n hx hb dL_isBook_212 rfl (lv_at hl 1 rfl) ?_
                      refine lv_iload hx hb dL_isBook_213 (lv_at hl 9 rfl) ?_
                      refine xi_iconst hx hb dL_isBook_215 ?_
                      refine g_xcallSH (As := [.ref (x0), .int (iI (k)), .int (iI (1))]) (rest := []) K (c_L_entryAt (by omega) hI hst (lG_n (by decide)) (lG_n (by decide)) (lG_n (by decide)) hF (k) (1) ⟨by omega, by omega⟩ ⟨by omega, by omega⟩) (vx_cwSW 3 hts (gd_T gL_L_entryAt) rfl rfl rfl (by decide +kernel) ⟨Nat.le_of_ble_eq_true rfl, Nat.le_of_ble_eq_true rfl⟩) hK hW rfl hl.1 rfl (Nat.le_of_ble_eq_true rfl) dL_isBook_216 ⟨by dsimp only; omega, by dsimp only; omega⟩ (fun v_ f H locs hp hW => ?_)
                      rw [a_ent (S := S) (k := (k)) (j := (1)) (by omega) (by omega)] at hp
                      obtain ⟨hpv, hF⟩ : v_ = some (.long (S.2 32 (5 * (k) + (1)))) ∧ wX D cy x0 S (lG cy q N) f := hp
                      subst hpv
                      refine lv_aload_n hx hb dL_isBook_219 rfl (lv_at hl 3 rfl) ?_
                      refine lv_iload hx hb dL_isBook_220 (lv_at hl 0 rfl) ?_
                      refine l_ild hx hb hK hF hW (i := 1) (by decide) (z := its) (by omega) (by have e : ((lLen 1 : Nat) : Int) = 60 := rfl; omega) dL_isBook_222 ?_
                      refine xi_bipush hx hb dL_isBook_223 (by decide) ?_
                      refine xi_irem hx hb ⟨by omega, by omega⟩ ⟨by omega, by omega⟩ dL_isBook_225 ?_
                      refine xi_i2l hx hb ⟨by omega, by omega⟩ dL_isBook_226 ?_
                      refine xi_lcmp_ne (tgt := 273) hx hb dL_isBook_227 dL_isBook_228 (by decide) (fun c_37 => ?_) (fun c_37 => ?_)
                      · exact absurd q1 c_37
                      · refine lv_aload_n hx hb dL_isBook_231 rfl (lv_at hl 1 rfl) ?_
                        refine lv_iload hx hb dL_isBook_232 (lv_at hl 9 rfl) ?_
                        refine xi_iconst hx hb dL_isBook_234 ?_
                        refine g_xcallSH (As := [.ref (x0), .int (iI (k)), .int (iI (2))]) (rest := []) K (c_L_entryAt (by omega) hI hst (lG_n (by decide)) (lG_n (by decide)) (lG_n (by decide)) hF (k) (2) ⟨by omega, by omega⟩ ⟨by omega, by omega⟩) (vx_cwSW 3 hts (gd_T gL_L_entryAt) rfl rfl rfl (by decide +kernel) ⟨Nat.le_of_ble_eq_true rfl, Nat.le_of_ble_eq_true rfl⟩) hK hW rfl hl.1 rfl (Nat.le_of_ble_eq_true rfl) dL_isBook_235 ⟨by dsimp only; omega, by dsimp only; omega⟩ (fun v_ f H locs hp hW => ?_)
                        rw [a_ent (S := S) (k := (k)) (j := (2)) (by omega) (by omega)] at hp
                        obtain ⟨hpv, hF⟩ : v_ = some (.long (S.2 32 (5 * (k) + (2)))) ∧ wX D cy x0 S (lG cy q N) f := hp
                        subst hpv
                        refine lv_aload_n hx hb dL_isBook_238 rfl (lv_at hl 4 rfl) ?_
                        refine lv_iload hx hb dL_isBook_239 (lv_at hl 0 rfl) ?_
                        refine l_ild hx hb hK hF hW (i := 2) (by decide) (z := its) (by omega) (by have e : ((lLen 2 : Nat) : Int) = 60 := rfl; omega) dL_isBook_241 ?_
                        refine xi_bipush hx hb dL_isBook_242 (by decide) ?_
                        refine xi_idiv hx hb ⟨by omega, by omega⟩ ⟨by omega, by omega⟩ dL_isBook_244 ?_
                        refine xi_i2l hx hb ⟨by omega, by omega⟩ dL_isBook_245 ?_
                        refine xi_lcmp_ne (tgt := 273) hx hb dL_isBook_246 dL_isBook_247 (by decide) (fun c_38 => ?_) (fun c_38 => ?_)
                        · exact absurd q2 c_38
                        · refine lv_aload_n hx hb dL_isBook_250 rfl (lv_at hl 1 rfl) ?_
                          refine lv_iload hx hb dL_isBook_251 (lv_at hl 9 rfl) ?_
                          refine xi_iconst hx hb dL_isBook_253 ?_
                          refine g_xcallSH (As := [.ref (x0), .int (iI (k)), .int (iI (3))]) (rest := []) K (c_L_entryAt (by omega) hI hst (lG_n (by decide)) (lG_n (by decide)) (lG_n (by decide)) hF (k) (3) ⟨by omega, by omega⟩ ⟨by omega, by omega⟩) (vx_cwSW 3 hts (gd_T gL_L_entryAt) rfl rfl rfl (by decide +kernel) ⟨Nat.le_of_ble_eq_true rfl, Nat.le_of_ble_eq_true rfl⟩) hK hW rfl hl.1 rfl (Nat.le_of_ble_eq_true rfl) dL_isBook_254 ⟨by dsimp only; omega, by dsimp only; omega⟩ (fun v_ f H locs hp hW => ?_)
                          rw [a_ent (S := S) (k := (k)) (j := (3)) (by omega) (by omega)] at hp
                          obtain ⟨hpv, hF⟩ : v_ = some (.long (S.2 32 (5 * (k) + (3)))) ∧ wX D cy x0 S (lG cy q N) f := hp
                          subst hpv
                          refine lv_aload_n hx hb dL_isBook_257 rfl (lv_at hl 4 rfl) ?_
                          refine lv_iload hx hb dL_isBook_258 (lv_at hl 0 rfl) ?_
                          refine l_ild hx hb hK hF hW (i := 2) (by decide) (z := its) (by omega) (by have e : ((lLen 2 : Nat) : Int) = 60 := rfl; omega) dL_isBook_260 ?_
                          refine xi_bipush hx hb dL_isBook_261 (by decide) ?_
                          refine xi_irem hx hb ⟨by omega, by omega⟩ ⟨by omega, by omega⟩ dL_isBook_263 ?_
                          refine xi_i2l hx hb ⟨by omega, by omega⟩ dL_isBook_264 ?_
                          refine xi_lcmp_ne (tgt := 273) hx hb dL_isBook_265 dL_isBook_266 (by decide) (fun c_39 => ?_) (fun c_39 => ?_)
                          · exact absurd q3 c_39
                          · refine xi_iconst hx hb dL_isBook_269 ?_
                            refine lv_goto (tgt := 274) hx hb dL_isBook_270 (by decide) ?_
                            refine lv_istore (lv' := [(7, .int (iI (1))), (9, .int (iI (its))), (0, .ref (x0)), (1, .ref (q 0)), (2, .ref (q 1)), (3, .ref (q 2)), (4, .ref (q 3)), (5, .ref (q 4)), (6, .ref (q 5)), (8, .int (iI (k)))]) hx hb dL_isBook_274 hl (by decide) rfl (fun ls hl => ?_)
                            refine lv_iload hx hb dL_isBook_276 (lv_at hl 0 rfl) ?_
                            refine xi_if_eq (tgt := 292) hx hb ⟨by omega, by omega⟩ dL_isBook_278 (by decide) (fun c_40 => ?_) (fun c_40 => ?_)
                            · exfalso
                              omega
                            · refine lv_iload hx hb dL_isBook_281 (lv_at hl 1 rfl) ?_
                              refine xi_if_lt (tgt := 292) hx hb ⟨by omega, by omega⟩ dL_isBook_283 (by decide) (fun c_41 => ?_) (fun c_41 => ?_)
                              · exfalso
                                omega
                              · refine lv_aload hx hb dL_isBook_286 (lv_at hl 7 rfl) ?_
                                refine lv_iload hx hb dL_isBook_288 (lv_at hl 1 rfl) ?_
                                refine xi_iconst hx hb dL_isBook_290 ?_
                                refine l_ist hx hb hK hF hW (i := 4) (by decide) (z := its) (v := 4) (by omega) (by have e : ((lLen 4 : Nat) : Int) = 60 := rfl; omega) dL_isBook_291 (fun f H locs hF hW => ?_)
                                refine xi_iinc (lv' := [(8, .int (iI (k + 1))), (7, .int (iI (1))), (9, .int (iI (its))), (0, .ref (x0)), (1, .ref (q 0)), (2, .ref (q 1)), (3, .ref (q 2)), (4, .ref (q 3)), (5, .ref (q 4)), (6, .ref (q 5))]) hx hb dL_isBook_292 hl (k := 9) rfl (by decide) rfl (fun ls hl => ?_)
                                refine lv_goto (tgt := 132) hx hb dL_isBook_295 (by decide) ?_
                                exact W.widen (by omega) (by omega) (ih_lp_7 (k + 1) H locs ls (by omega) ⟨f, pI N 4 its 4, ⟨by omega, by omega, eSt_pos hN (by omega) (by omega) (by omega) hi4⟩, hF, hW, lv_sub hl [3, 4, 5, 6, 7, 8, 9, 1, 0] rfl⟩)
      · refine lv_lconst (v := 0) hx hb dL_isBook_36 (by decide) ?_
        refine lv_lstore (lv' := [(9, .long (0)), (0, .ref (x0)), (1, .ref (q 0)), (2, .ref (q 1)), (3, .ref (q 2)), (4, .ref (q 3)), (5, .ref (q 4)), (6, .ref (q 5)), (7, .int (iI (1))), (8, .int (iI (a)))]) hx hb dL_isBook_37 hl (by decide) rfl (fun ls hl => ?_)
        refine xi_iconst hx hb dL_isBook_39 ?_
        refine lv_istore (lv' := [(11, .int (iI (0))), (9, .long (0)), (0, .ref (x0)), (1, .ref (q 0)), (2, .ref (q 1)), (3, .ref (q 2)), (4, .ref (q 3)), (5, .ref (q 4)), (6, .ref (q 5)), (7, .int (iI (1))), (8, .int (iI (a)))]) hx hb dL_isBook_40 hl (by decide) rfl (fun ls hl => ?_)
        refine W.widen (k := (fun (b : Int) => 56 * a.toNat + 8 * b.toNat) (0)) (n := (fun (b : Int) => 336 * a.toNat + 48 * b.toNat) (0)) (by dsimp only; omega) (by dsimp only; omega) ?_
        refine lp_v1 (Wg := fun (b : Int) (H : Heap) (locs : List Loc) (ls : Array Slot) => W p_ l e_ { frames := 9, cells := 3200, slots := 19200, locals := 174 } s_ m_ ([.ref (x0), .ref (q 0), .ref (q 1), .ref (q 2), .ref (q 3), .ref (q 4), .ref (q 5)] : List Value).toArray be_ me_ co_ H locs (56 * a.toNat + 8 * b.toNat) (336 * a.toNat + 48 * b.toNat) (MQ be_ (gQ D B0 (fun (r : Option Value) (g_ : gF) => r = some (.int (iI 1)) ∧ ∃ M1 : ST, wX D cy x0 S (lG cy q M1) g_ ∧ lM S S M1 ∧ M1.2 = M.2)) ([.ref (x0), .ref (q 0), .ref (q 1), .ref (q 2), .ref (q 3), .ref (q 4), .ref (q 5)] : List Value).toArray s_ 3200 19200 (fun q : Nat => B0 ≤ q)) (F0 m_ 42 ls [])) (fun (b : Int) (H : Heap) (locs : List Loc) (ls : Array Slot) => ∃ (f : gF), (0 ≤ b ∧ b ≤ 7) ∧ wX D cy x0 S (lG cy q M) f ∧ gW D B0 s_ f H locs ∧ lv_has ls 14 [(0, .ref (x0)), (1, .ref (q 0)), (2, .ref (q 1)), (3, .ref (q 2)), (4, .ref (q 3)), (5, .ref (q 4)), (6, .ref (q 5)), (7, .int (iI (1))), (8, .int (iI (a))), (9, .long (suL (fun x : Int => S.2 1 (3 * x + a)) b.toNat)), (11, .int (iI (b)))]) (fun (b : Int) => (7 - b).toNat) (fun b H locs ls hI_ ih_lp_42 => ?_) (0) H locs ls ⟨f, ⟨by omega, by omega⟩, hF, hW, lv_sub hl [2, 3, 4, 5, 6, 7, 8, 9, 10, 1, 0] rfl⟩
        obtain ⟨f, hc_lp_42, hF, hW, hl⟩ := hI_
        refine lv_iload hx hb dL_isBook_42 (lv_at hl 10 rfl) ?_
        refine xi_bipush hx hb dL_isBook_44 (by decide) ?_
        refine xi_icmp_ge (tgt := 98) hx hb ⟨by omega, by omega⟩ ⟨by omega, by omega⟩ dL_isBook_46 (by decide) (fun c_43 => ?_) (fun c_43 => ?_)
        · refine lv_iload hx hb dL_isBook_98 (lv_at hl 7 rfl) ?_
          refine xi_if_eq (tgt := 118) hx hb ⟨by omega, by omega⟩ dL_isBook_100 (by decide) (fun c_44 => ?_) (fun c_44 => ?_)
          · exfalso
            omega
          · refine lv_lload hx hb dL_isBook_103 (lv_at hl 9 rfl) ?_
            refine lv_aload hx hb dL_isBook_105 (lv_at hl 6 rfl) ?_
            refine lv_iload hx hb dL_isBook_107 (lv_at hl 8 rfl) ?_
            refine l_lld hx hb hK hF hW (z := a) (by omega) (by omega) dL_isBook_109 ?_
            refine xi_lcmp_ne (tgt := 118) hx hb dL_isBook_110 dL_isBook_111 (by decide) (fun c_45 => ?_) (fun c_45 => ?_)
            · have e7 : b = 7 := by omega
              subst e7
              exact absurd (show suL (fun x : Int => S.2 1 (3 * x + a)) (7 : Int).toNat = M.2 0 a from hk.2.2.2.2.1 a (by omega) (by omega)) c_45
            · refine xi_iconst hx hb dL_isBook_114 ?_
              refine lv_goto (tgt := 119) hx hb dL_isBook_115 (by decide) ?_
              refine lv_istore (lv' := [(7, .int (iI (1))), (0, .ref (x0)), (1, .ref (q 0)), (2, .ref (q 1)), (3, .ref (q 2)), (4, .ref (q 3)), (5, .ref (q 4)), (6, .ref (q 5)), (8, .int (iI (a))), (9, .long (suL (fun x : Int => S.2 1 (3 * x + a)) b.toNat)), (11, .int (iI (b)))]) hx hb dL_isBook_119 hl (by decide) rfl (fun ls hl => ?_)
              refine xi_iinc (lv' := [(8, .int (iI (a + 1))), (7, .int (iI (1))), (0, .ref (x0)), (1, .ref (q 0)), (2, .ref (q 1)), (3, .ref (q 2)), (4, .ref (q 3)), (5, .ref (q 4)), (6, .ref (q 5)), (9, .long (suL (fun x : Int => S.2 1 (3 * x + a)) b.toNat)), (11, .int (iI (b)))]) hx hb dL_isBook_121 hl (k := 8) rfl (by decide) rfl (fun ls hl => ?_)
              refine lv_goto (tgt := 30) hx hb dL_isBook_124 (by decide) ?_
              exact W.widen (by omega) (by omega) (ih_lp_5 (a + 1) H locs ls (by omega) ⟨f, ⟨by omega, by omega⟩, hF, hW, lv_sub hl [2, 3, 4, 5, 6, 7, 8, 1, 0] rfl⟩)
        · refine lv_aload_n hx hb dL_isBook_49 rfl (lv_at hl 0 rfl) ?_
          refine lv_iload hx hb dL_isBook_50 (lv_at hl 10 rfl) ?_
          refine lv_iload hx hb dL_isBook_52 (lv_at hl 8 rfl) ?_
          refine g_xcallSH (As := [.ref (x0), .int (iI (b)), .int (iI (a))]) (rest := []) K (c_L_account (by omega) hI hst (lG_n (by decide)) (lG_n (by decide)) (lG_n (by decide)) hF (b) (a) ⟨by omega, by omega⟩ ⟨by omega, by omega⟩) (vx_cwSW 3 hts (gd_T gL_L_account) rfl rfl rfl (by decide +kernel) ⟨Nat.le_of_ble_eq_true rfl, Nat.le_of_ble_eq_true rfl⟩) hK hW rfl hl.1 rfl (Nat.le_of_ble_eq_true rfl) dL_isBook_54 ⟨by dsimp only; omega, by dsimp only; omega⟩ (fun v_ f H locs hp hW => ?_)
          rw [a_acc (S := S) (b := (b)) (c := (a)) (by omega) (by omega)] at hp
          obtain ⟨hpv, hF⟩ : v_ = some (.long (S.2 1 (3 * (b) + (a)))) ∧ wX D cy x0 S (lG cy q M) f := hp
          subst hpv
          refine lv_lstore (lv' := [(12, .long (S.2 1 (3 * (b) + (a)))), (0, .ref (x0)), (1, .ref (q 0)), (2, .ref (q 1)), (3, .ref (q 2)), (4, .ref (q 3)), (5, .ref (q 4)), (6, .ref (q 5)), (7, .int (iI (1))), (8, .int (iI (a))), (9, .long (suL (fun x : Int => S.2 1 (3 * x + a)) b.toNat)), (11, .int (iI (b)))]) hx hb dL_isBook_57 hl (by decide) rfl (fun ls hl => ?_)
          refine lv_lload hx hb dL_isBook_59 (lv_at hl 10 rfl) ?_
          refine lv_lload hx hb dL_isBook_61 (lv_at hl 0 rfl) ?_
          refine lv_ladd hx hb dL_isBook_63 ?_
          refine lv_lstore (lv' := [(9, .long ((suL (fun x : Int => S.2 1 (3 * x + a)) b.toNat) + (S.2 1 (3 * (b) + (a))))), (12, .long (S.2 1 (3 * (b) + (a)))), (0, .ref (x0)), (1, .ref (q 0)), (2, .ref (q 1)), (3, .ref (q 2)), (4, .ref (q 3)), (5, .ref (q 4)), (6, .ref (q 5)), (7, .int (iI (1))), (8, .int (iI (a))), (11, .int (iI (b)))]) hx hb dL_isBook_64 hl (by decide) rfl (fun ls hl => ?_)
          refine lv_iload hx hb dL_isBook_66 (lv_at hl 9 rfl) ?_
          refine xi_if_eq (tgt := 89) hx hb ⟨by omega, by omega⟩ dL_isBook_68 (by decide) (fun c_46 => ?_) (fun c_46 => ?_)
          · exfalso
            omega
          · refine lv_lload hx hb dL_isBook_71 (lv_at hl 1 rfl) ?_
            refine lv_aload_n hx hb dL_isBook_73 rfl (lv_at hl 2 rfl) ?_
            refine lv_iload hx hb dL_isBook_74 (lv_at hl 11 rfl) ?_
            refine lv_iload hx hb dL_isBook_76 (lv_at hl 10 rfl) ?_
            refine g_xcallSH (As := [.ref (x0), .int (iI (b)), .int (iI (a))]) (rest := [.long (S.2 1 (3 * (b) + (a)))]) K (c_L_accountAnew (by omega) hI hst (lG_n (by decide)) (lG_n (by decide)) (lG_n (by decide)) hF (b) (a) ⟨by omega, by omega⟩ ⟨by omega, by omega⟩) (vx_cwSW 3 hts (gd_T gL_L_accountAnew) rfl rfl rfl (by decide +kernel) ⟨Nat.le_of_ble_eq_true rfl, Nat.le_of_ble_eq_true rfl⟩) hK hW rfl hl.1 rfl (Nat.le_of_ble_eq_true rfl) dL_isBook_78 ⟨by dsimp only; omega, by dsimp only; omega⟩ (fun v_ f H locs hp hW => ?_)
            rw [a_anew (S := S) (b := (b)) (c := (a)) (by omega) (by omega)] at hp
            obtain ⟨hpv, hF⟩ : v_ = some (.long (sAnew S (b) (a) (S.1 31 0).toNat)) ∧ wX D cy x0 S (lG cy q M) f := hp
            subst hpv
            refine xi_lcmp_ne (tgt := 89) hx hb dL_isBook_81 dL_isBook_82 (by decide) (fun c_47 => ?_) (fun c_47 => ?_)
            · exact absurd (hk.2.2.2.1 b a (by omega) (by omega) (by omega) (by omega)) c_47
            · refine xi_iconst hx hb dL_isBook_85 ?_
              refine lv_goto (tgt := 90) hx hb dL_isBook_86 (by decide) ?_
              refine lv_istore (lv' := [(7, .int (iI (1))), (9, .long ((suL (fun x : Int => S.2 1 (3 * x + a)) b.toNat) + (S.2 1 (3 * (b) + (a))))), (12, .long (S.2 1 (3 * (b) + (a)))), (0, .ref (x0)), (1, .ref (q 0)), (2, .ref (q 1)), (3, .ref (q 2)), (4, .ref (q 3)), (5, .ref (q 4)), (6, .ref (q 5)), (8, .int (iI (a))), (11, .int (iI (b)))]) hx hb dL_isBook_90 hl (by decide) rfl (fun ls hl => ?_)
              refine xi_iinc (lv' := [(11, .int (iI (b + 1))), (7, .int (iI (1))), (9, .long ((suL (fun x : Int => S.2 1 (3 * x + a)) b.toNat) + (S.2 1 (3 * (b) + (a))))), (12, .long (S.2 1 (3 * (b) + (a)))), (0, .ref (x0)), (1, .ref (q 0)), (2, .ref (q 1)), (3, .ref (q 2)), (4, .ref (q 3)), (5, .ref (q 4)), (6, .ref (q 5)), (8, .int (iI (a)))]) hx hb dL_isBook_92 hl (k := 11) rfl (by decide) rfl (fun ls hl => ?_)
              refine lv_goto (tgt := 42) hx hb dL_isBook_95 (by decide) ?_
              have es : suL (fun x : Int => S.2 1 (3 * x + a)) b.toNat + S.2 1 (3 * b + a) = suL (fun x : Int => S.2 1 (3 * x + a)) (b + 1).toNat := suL_z (by omega)
              rw [es] at hl
              exact W.widen (by omega) (by omega) (ih_lp_42 (b + 1) H locs ls (by omega) ⟨f, ⟨by omega, by omega⟩, hF, hW, lv_sub hl [4, 5, 6, 7, 8, 9, 10, 1, 11, 2, 0] rfl⟩)
