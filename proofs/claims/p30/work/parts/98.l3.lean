/-! the law, walked -/
theorem lM_0 : lM sIni sIni Zs := by
  have z8 : sIni.1 8 0 = 0 := ini_n (by decide) (by decide) 0
  refine ⟨z8.symm, (ini_n (by decide) (by decide) 0).symm, (ini_n (by decide) (by decide) 0).symm, fun k k0 k1 => by omega, fun k k0 k1 => ?_⟩
  rw [if_neg (by omega)]
  rfl
theorem lw_born {cy : Nat → ClassId} {ad bk q : Nat → Nat} {X : CX} {f : gF} : ∀ (i : Nat) (r : Nat × va_E), kW cy ad bk sIni X (lG cy q Zs) i = some r → gup (gup (gup (gup (gup (gup (kW cy ad bk sIni X f) 0 (q 0) (.inl (cy 0, 4, .inl (fun _ => 0)))) 1 (q 1) (.inl (cy 0, 60, .inl (fun _ => 0)))) 2 (q 2) (.inl (cy 0, 60, .inl (fun _ => 0)))) 3 (q 3) (.inl (cy 0, 60, .inl (fun _ => 0)))) 4 (q 4) (.inl (cy 0, 60, .inl (fun _ => 0)))) 5 (q 5) (.inl (cy 1, 3, .inr (.inl (fun _ => 0)))) i = some r
  | 0, _, h => h
  | 1, _, h => h
  | 2, _, h => h
  | 3, _, h => h
  | 4, _, h => h
  | 5, _, h => h
  | i + 6, r, h => by
    rw [gup_n _ _ _ (by omega), gup_n _ _ _ (by omega), gup_n _ _ _ (by omega), gup_n _ _ _ (by omega), gup_n _ _ _ (by omega), gup_n _ _ _ (by omega)]
    unfold kW at h ⊢
    by_cases h2 : 100000 ≤ i + 6
    · rw [if_pos h2] at h ⊢
      exact h
    · rw [if_neg h2, lG_n (by omega)] at h
      cases h
theorem flags_no {l : Launch} (h : l.flags = flags0) : l.stackTraces = false := by
  unfold Launch.stackTraces
  rw [h]
  decide +kernel
set_option maxHeartbeats 8000000 in
set_option maxRecDepth 100000 in
theorem whole_start {p : Program} {e : Env} {s : State} {m : MethodId} {below : List Frame} {meth : Method} {c : Code} (l : Launch) (hflags : l.flags = flags0) {b L : Nat} {xs : Nat → Int32} (hL : L ≤ 260) (C0 : lw_At p s m meth c b L xs) : W p l e room_1 s m #[Value.ref b] below meth c s.heap [] 0 0 (lw_Z below #[Value.ref b] s) (entryFrame m ([Value.ref b] : List Value).toArray 13) := by
  obtain ⟨D, cy, hK, hZ⟩ := lw_gK C0
  obtain ⟨hx, hb, hr, hml, hown, hts, hX, hbl, hlocks, hgv⟩ := C0
  have hb : c.code = cL_law := hb
  have hown : s.vm.findClass RL = some m.cls := hown
  have hst := flags_no hflags
  have hrc : room_1.cells = 600046 := rfl
  have hrs : room_1.slots = 7301802 := rfl
  have K : CallFix p m c cL_law 13 s #[Value.ref b] lw_tbl RL := ⟨hx, hb, hml, hown, hts⟩
  have hW : gW D s.heap.size s (fun _ => none) s.heap [] := ⟨⟨fun i q h => (by cases h), fun i j q r h => (by cases h)⟩, va_S.rf, Nat.le_refl _, hZ⟩
  have hl := lv_entry ([.ref b]) (n := 13) (Nat.le_of_ble_eq_true rfl)
  rw [lg_entry_eq]
  generalize (lg_sl ([.ref b]) ++ List.replicate (13 - (lg_sl ([.ref b])).length) Slot.unset).toArray = ls at hl ⊢
  have hl : lv_has ls 13 [(0, .ref b)] := hl
  refine g_new (own := RL) (C := RX11) (T := TX11) (N := 1) hx hb hts (fun w h => (wsX110_in w h).1) tyX11 tyX11_ok hown (hts _ (wsT_in _ wK_0).1) (hts _ (wsT_in _ wK_1).1) (hts _ (wsT_in _ (wsC_T _ wsCw_52)).1) hK hW 100000 (ci := 12) rfl (fs := [.null]) (fun j hj => by rcases (show j = 0 by omega) with rfl; rfl) (Nat.le_of_ble_eq_true rfl) (Nat.le_of_ble_eq_true rfl) dL_law_0 (fun x0 H hW hne => ?_)
  refine lv_dup hx hb dL_law_3 rfl ?_
  refine g_callI (As := []) (rest := [.ref x0]) K (c_X11_init (gup_s _ _ _ _)) (cwI 0 hts (gd_L gL_X11_init) rfl rfl rfl (hts _ (wsT_in _ (wsC_T _ wsCw_52)).1) (hts _ (wsT_in _ wK_3).1) (hts _ (wsT_in _ wK_4).1) rfl (by decide +kernel) ⟨Nat.le_of_ble_eq_true rfl, Nat.le_of_ble_eq_true rfl⟩) hK hW rfl hl.1 rfl (Nat.le_of_ble_eq_true rfl) dL_law_4 ⟨Nat.le_of_ble_eq_true rfl, Nat.le_of_ble_eq_true rfl⟩ (fun v_ f_ H locs hp hW => ?_)
  obtain ⟨ad, bk, had0, had11, hbk10, hpv, hpe⟩ := hp
  rw [hpe] at hW
  subst hpv
  refine lv_astore_n (lv' := [(1, .ref x0), (0, .ref b)]) hx hb dL_law_7 rfl hl (by decide) rfl (fun ls hl => ?_)
  refine xi_iconst hx hb dL_law_8 ?_
  refine g_newa (atype := .int) (ci := 0) (ty := .int) hx hb (hts _ aiT) rfl hK rfl (fun cA h => Option.some.inj (h.symm.trans ((hK.1.2 0 (cy 0, .int) rfl).2))) hW 0 (n := iI 4) (N' := 4) (a0 := (4, .inl (fun _ => 0))) (fun _ => rfl) (by decide) (by decide) (Nat.le_of_ble_eq_true rfl) (Nat.le_of_ble_eq_true rfl) (Nat.le_of_ble_eq_true rfl) dL_law_9 (fun a0 H hW hne => ?_)
  refine lv_astore_n (lv' := [(2, .ref a0), (1, .ref x0), (0, .ref b)]) hx hb dL_law_11 rfl hl (by decide) rfl (fun ls hl => ?_)
  refine xi_bipush hx hb dL_law_12 (by decide) ?_
  refine g_newa (atype := .int) (ci := 0) (ty := .int) hx hb (hts _ aiT) rfl hK rfl (fun cA h => Option.some.inj (h.symm.trans ((hK.1.2 0 (cy 0, .int) rfl).2))) hW 1 (n := iI 60) (N' := 60) (a0 := (60, .inl (fun _ => 0))) (fun _ => rfl) (by decide) (by decide) (Nat.le_of_ble_eq_true rfl) (Nat.le_of_ble_eq_true rfl) (Nat.le_of_ble_eq_true rfl) dL_law_14 (fun a1 H hW hne => ?_)
  refine lv_astore_n (lv' := [(3, .ref a1), (2, .ref a0), (1, .ref x0), (0, .ref b)]) hx hb dL_law_16 rfl hl (by decide) rfl (fun ls hl => ?_)
  refine xi_bipush hx hb dL_law_17 (by decide) ?_
  refine g_newa (atype := .int) (ci := 0) (ty := .int) hx hb (hts _ aiT) rfl hK rfl (fun cA h => Option.some.inj (h.symm.trans ((hK.1.2 0 (cy 0, .int) rfl).2))) hW 2 (n := iI 60) (N' := 60) (a0 := (60, .inl (fun _ => 0))) (fun _ => rfl) (by decide) (by decide) (Nat.le_of_ble_eq_true rfl) (Nat.le_of_ble_eq_true rfl) (Nat.le_of_ble_eq_true rfl) dL_law_19 (fun a2 H hW hne => ?_)
  refine lv_astore (lv' := [(4, .ref a2), (3, .ref a1), (2, .ref a0), (1, .ref x0), (0, .ref b)]) hx hb dL_law_21 hl (by decide) rfl (fun ls hl => ?_)
  refine xi_bipush hx hb dL_law_23 (by decide) ?_
  refine g_newa (atype := .int) (ci := 0) (ty := .int) hx hb (hts _ aiT) rfl hK rfl (fun cA h => Option.some.inj (h.symm.trans ((hK.1.2 0 (cy 0, .int) rfl).2))) hW 3 (n := iI 60) (N' := 60) (a0 := (60, .inl (fun _ => 0))) (fun _ => rfl) (by decide) (by decide) (Nat.le_of_ble_eq_true rfl) (Nat.le_of_ble_eq_true rfl) (Nat.le_of_ble_eq_true rfl) dL_law_25 (fun a3 H hW hne => ?_)
  refine lv_astore (lv' := [(5, .ref a3), (4, .ref a2), (3, .ref a1), (2, .ref a0), (1, .ref x0), (0, .ref b)]) hx hb dL_law_27 hl (by decide) rfl (fun ls hl => ?_)
  refine xi_bipush hx hb dL_law_29 (by decide) ?_
  refine g_newa (atype := .int) (ci := 0) (ty := .int) hx hb (hts _ aiT) rfl hK rfl (fun cA h => Option.some.inj (h.symm.trans ((hK.1.2 0 (cy 0, .int) rfl).2))) hW 4 (n := iI 60) (N' := 60) (a0 := (60, .inl (fun _ => 0))) (fun _ => rfl) (by decide) (by decide) (Nat.le_of_ble_eq_true rfl) (Nat.le_of_ble_eq_true rfl) (Nat.le_of_ble_eq_true rfl) dL_law_31 (fun a4 H hW hne => ?_)
  refine lv_astore (lv' := [(6, .ref a4), (5, .ref a3), (4, .ref a2), (3, .ref a1), (2, .ref a0), (1, .ref x0), (0, .ref b)]) hx hb dL_law_33 hl (by decide) rfl (fun ls hl => ?_)
  refine xi_iconst hx hb dL_law_35 ?_
  refine g_newa (atype := .long) (ci := 1) (ty := .long) hx hb (hts _ alT) rfl hK rfl (fun cA h => Option.some.inj (h.symm.trans ((hK.1.2 1 (cy 1, .long) rfl).2))) hW 5 (n := iI 3) (N' := 3) (a0 := (3, .inr (.inl (fun _ => 0)))) (fun _ => rfl) (by decide) (by decide) (Nat.le_of_ble_eq_true rfl) (Nat.le_of_ble_eq_true rfl) (Nat.le_of_ble_eq_true rfl) dL_law_36 (fun a5 H hW hne => ?_)
  refine lv_astore (lv' := [(7, .ref a5), (6, .ref a4), (5, .ref a3), (4, .ref a2), (3, .ref a1), (2, .ref a0), (1, .ref x0), (0, .ref b)]) hx hb dL_law_38 hl (by decide) rfl (fun ls hl => ?_)
  obtain ⟨q, rfl, rfl, rfl, rfl, rfl, rfl⟩ : ∃ q : Nat → Nat, q 0 = a0 ∧ q 1 = a1 ∧ q 2 = a2 ∧ q 3 = a3 ∧ q 4 = a4 ∧ q 5 = a5 := ⟨fun i => if i = 0 then a0 else if i = 1 then a1 else if i = 2 then a2 else if i = 3 then a3 else if i = 4 then a4 else a5, rfl, rfl, rfl, rfl, rfl, rfl⟩
  have hW := gW_via hW (lw_born (cy := cy) (ad := ad) (bk := bk) (q := q))
  obtain ⟨f, hF, hW⟩ : ∃ f, wX D cy x0 sIni (lG cy q Zs) f ∧ gW D s.heap.size s f H locs := ⟨_, ⟨ad, bk, _, _, _, had0, fun _ => had11, fun _ => hbk10, rfl⟩, hW⟩
  have hl : lv_has ls 13 [(0, .ref b), (1, .ref (x0)), (2, .ref (q 0)), (3, .ref (q 1)), (4, .ref (q 2)), (5, .ref (q 3)), (6, .ref (q 4)), (7, .ref (q 5))] := lv_sub hl [7, 6, 5, 4, 3, 2, 1, 0] rfl
  have z8 : sIni.1 8 0 = 0 := ini_n (by decide) (by decide) 0
  have z0 : sIni.1 0 0 = 0 := ini_n (by decide) (by decide) 0
  refine W.widen (k := 46) (n := 4742) (by omega) (by omega) ?_
  refine lv_aload_n hx hb dL_law_40 rfl (lv_at hl 1 rfl) ?_
  obtain ⟨fs_, hfs_⟩ := wX_at hF
  refine g_callV (i := 100000) (As := []) (rest := []) K (x_payments cI_0.1.1.1 hF) (cwV 0 hts (gd_L gL_X11_payments) rfl rfl rfl (by decide +kernel) ⟨Nat.le_of_ble_eq_true rfl, Nat.le_of_ble_eq_true rfl⟩) hK hW hfs_ rfl rfl hl.1 rfl (Nat.le_of_ble_eq_true rfl) dL_law_41 ⟨by rw [hrc]; omega, by rw [hrs]; omega⟩ (fun v_ f_ H locs hp hW => ?_)
  obtain ⟨hpv, hpe⟩ := hp
  rw [hpe] at hW
  subst hpv
  have w_1 := wf_8 cI_0.1.1.1 0
  refine xi_if_ne (tgt := 51) hx hb ⟨by omega, by omega⟩ dL_law_44 (by decide) (fun c_2 => ?_) (fun c_2 => ?_)
  · exfalso
    omega
  · refine xi_iconst hx hb dL_law_47 ?_
    refine lv_goto (tgt := 52) hx hb dL_law_48 (by decide) ?_
    refine lv_istore (lv' := [(8, .int (iI (1))), (0, .ref (b)), (1, .ref (x0)), (2, .ref (q 0)), (3, .ref (q 1)), (4, .ref (q 2)), (5, .ref (q 3)), (6, .ref (q 4)), (7, .ref (q 5))]) hx hb dL_law_52 hl (by decide) rfl (fun ls hl => ?_)
    refine xi_iconst hx hb dL_law_54 ?_
    refine lv_istore (lv' := [(9, .int (iI (0))), (8, .int (iI (1))), (0, .ref (b)), (1, .ref (x0)), (2, .ref (q 0)), (3, .ref (q 1)), (4, .ref (q 2)), (5, .ref (q 3)), (6, .ref (q 4)), (7, .ref (q 5))]) hx hb dL_law_55 hl (by decide) rfl (fun ls hl => ?_)
    refine W.widen (k := (fun (n : Nat) => 46 + 4300 * n) (0)) (n := (fun (n : Nat) => 4742 + 51500 * n) (0)) (by dsimp only; omega) (by dsimp only; omega) ?_
    refine lp_v1 (Wg := fun (n : Nat) (H : Heap) (locs : List Loc) (ls : Array Slot) => W p l e room_1 s m #[Value.ref b] below meth c H locs (46 + 4300 * n) (4742 + 51500 * n) (lw_Z below #[Value.ref b] s) (F0 m 57 ls [])) (fun (n : Nat) (H : Heap) (locs : List Loc) (ls : Array Slot) => ∃ (f : gF) (S : ST) (M : ST), (n ≤ 110 ∧ cI n S ∧ kI (fun c => M.2 0 c) S ∧ lM S S M ∧ S.1 0 0 ≤ (n : Int)) ∧ wX D cy x0 S (lG cy q M) f ∧ gW D s.heap.size s f H locs ∧ lv_has ls 13 [(0, .ref (b)), (1, .ref (x0)), (2, .ref (q 0)), (3, .ref (q 1)), (4, .ref (q 2)), (5, .ref (q 3)), (6, .ref (q 4)), (7, .ref (q 5)), (8, .int (iI (1))), (9, .int (iI ((n : Int))))]) (fun (n : Nat) => 110 - n) (fun n H locs ls hI_ ih_lp_3 => ?_) (0) H locs ls ⟨f, sIni, Zs, ⟨by omega, cI_0, kI_0, lM_0, by rw [z0]; omega⟩, hF, hW, lv_sub hl [2, 3, 4, 5, 6, 7, 8, 9, 1, 0] rfl⟩
    obtain ⟨f, S, M, hc_lp_3, hF, hW, hl⟩ := hI_
    obtain ⟨hn110, hI, hk, hM, hd⟩ := hc_lp_3
    refine lv_iload hx hb dL_law_57 (lv_at hl 9 rfl) ?_
    refine xi_bipush hx hb dL_law_59 (by decide) ?_
    refine xi_icmp_ge (tgt := 218) hx hb ⟨by omega, by omega⟩ ⟨by omega, by omega⟩ dL_law_61 (by decide) (fun c_4 => ?_) (fun c_4 => ?_)
    · refine lv_iload hx hb dL_law_218 (lv_at hl 8 rfl) ?_
      refine va_forget (fun q hq => hW.2.1.2.2 q hq) ?_
      refine W.widen (k := 600046) (n := 7301802) (by omega) (by omega) ?_
      exact lw_ret hx hb hr hlocks dL_law_220
    · have hn : n < 110 := by omega
      refine lv_iload hx hb dL_law_64 (lv_at hl 8 rfl) ?_
      refine xi_if_eq (tgt := 218) hx hb ⟨by omega, by omega⟩ dL_law_66 (by decide) (fun c_5 => ?_) (fun c_5 => ?_)
      · exfalso
        omega
      · refine lv_aload_n hx hb dL_law_69 rfl (lv_at hl 0 rfl) ?_
        refine xi_iconst hx hb dL_law_70 ?_
        refine lv_iload hx hb dL_law_71 (lv_at hl 9 rfl) ?_
        refine xi_imul hx hb dL_law_73 ?_
        refine g_callA (As := [.ref (b), .int (iI (2 * (n : Int)))]) (rest := []) K (c_L_at (2 * (n : Int)) ⟨by omega, by omega⟩ (by omega)) (va_cwS 2 hts (gd_L gL_L_at) rfl rfl rfl (by decide +kernel) ⟨Nat.le_of_ble_eq_true rfl, Nat.le_of_ble_eq_true rfl⟩) hK hW hbl hX rfl hl.1 rfl (Nat.le_of_ble_eq_true rfl) dL_law_74 ⟨by rw [hrc]; omega, by rw [hrs]; omega⟩ (fun v_ f_ H locs hp hW => ?_)
        obtain ⟨x_6, hx_6, hpv, hpe⟩ := hp
        rw [hpe] at hW
        subst hpv
        refine lv_istore (lv' := [(10, .int (iI (x_6))), (0, .ref (b)), (1, .ref (x0)), (2, .ref (q 0)), (3, .ref (q 1)), (4, .ref (q 2)), (5, .ref (q 3)), (6, .ref (q 4)), (7, .ref (q 5)), (8, .int (iI (1))), (9, .int (iI ((n : Int))))]) hx hb dL_law_77 hl (by decide) rfl (fun ls hl => ?_)
        refine lv_aload_n hx hb dL_law_79 rfl (lv_at hl 1 rfl) ?_
        refine xi_iconst hx hb dL_law_80 ?_
        refine lv_iload hx hb dL_law_81 (lv_at hl 10 rfl) ?_
        refine xi_imul hx hb dL_law_83 ?_
        refine xi_iconst hx hb dL_law_84 ?_
        refine xi_iadd hx hb dL_law_85 ?_
        refine g_callA (As := [.ref (b), .int (iI ((2 * (n : Int)) + 1))]) (rest := []) K (c_L_at ((2 * (n : Int)) + 1) ⟨by omega, by omega⟩ (by omega)) (va_cwS 2 hts (gd_L gL_L_at) rfl rfl rfl (by decide +kernel) ⟨Nat.le_of_ble_eq_true rfl, Nat.le_of_ble_eq_true rfl⟩) hK hW hbl hX rfl hl.1 rfl (Nat.le_of_ble_eq_true rfl) dL_law_86 ⟨by rw [hrc]; omega, by rw [hrs]; omega⟩ (fun v_ f_ H locs hp hW => ?_)
        obtain ⟨x_7, hx_7, hpv, hpe⟩ := hp
        rw [hpe] at hW
        subst hpv
        refine lv_istore (lv' := [(11, .int (iI (x_7))), (10, .int (iI (x_6))), (0, .ref (b)), (1, .ref (x0)), (2, .ref (q 0)), (3, .ref (q 1)), (4, .ref (q 2)), (5, .ref (q 3)), (6, .ref (q 4)), (7, .ref (q 5)), (8, .int (iI (1))), (9, .int (iI ((n : Int))))]) hx hb dL_law_89 hl (by decide) rfl (fun ls hl => ?_)
        refine lv_iload hx hb dL_law_91 (lv_at hl 1 rfl) ?_
        refine xi_bipush hx hb dL_law_93 (by decide) ?_
        refine g_callS (As := [.int (iI (x_6)), .int (iI (10))]) (rest := []) K (c_L_low (x_6) (10) ⟨by omega, by omega⟩ ⟨by omega, by omega⟩) (va_cwS 2 hts (gd_L gL_L_low) rfl rfl rfl (by decide +kernel) ⟨Nat.le_of_ble_eq_true rfl, Nat.le_of_ble_eq_true rfl⟩) hK hW rfl hl.1 rfl (Nat.le_of_ble_eq_true rfl) dL_law_95 ⟨by rw [hrc]; omega, by rw [hrs]; omega⟩ (fun v_ f_ H locs hp hW => ?_)
        obtain ⟨z_8, z_8a, z_8b, hpv, hpe⟩ := hp
        rw [hpe] at hW
        subst hpv
        refine lv_istore (lv' := [(12, .int (iI (z_8))), (11, .int (iI (x_7))), (10, .int (iI (x_6))), (0, .ref (b)), (1, .ref (x0)), (2, .ref (q 0)), (3, .ref (q 1)), (4, .ref (q 2)), (5, .ref (q 3)), (6, .ref (q 4)), (7, .ref (q 5)), (8, .int (iI (1))), (9, .int (iI ((n : Int))))]) hx hb dL_law_98 hl (by decide) rfl (fun ls hl => ?_)
        refine lv_iload hx hb dL_law_100 (lv_at hl 0 rfl) ?_
        refine xi_iconst hx hb dL_law_102 ?_
        refine xi_icmp_ge (tgt := 125) hx hb ⟨by omega, by omega⟩ ⟨by omega, by omega⟩ dL_law_103 (by decide) (fun c_9 => ?_) (fun c_9 => ?_)
        · refine lv_iload hx hb dL_law_125 (lv_at hl 0 rfl) ?_
          refine xi_bipush hx hb dL_law_127 (by decide) ?_
          refine xi_icmp_ge (tgt := 148) hx hb ⟨by omega, by omega⟩ ⟨by omega, by omega⟩ dL_law_129 (by decide) (fun c_10 => ?_) (fun c_10 => ?_)
          · refine lv_aload_n hx hb dL_law_148 rfl (lv_at hl 4 rfl) ?_
            refine lv_aload_n hx hb dL_law_149 rfl (lv_at hl 5 rfl) ?_
            refine lv_aload_n hx hb dL_law_150 rfl (lv_at hl 6 rfl) ?_
            refine lv_aload hx hb dL_law_151 (lv_at hl 7 rfl) ?_
            refine lv_aload hx hb dL_law_153 (lv_at hl 8 rfl) ?_
            refine lv_iload hx hb dL_law_155 (lv_at hl 2 rfl) ?_
            refine xi_iconst hx hb dL_law_157 ?_
            refine xi_ishr hx hb dL_law_158 (fun y_11 hy_11 => ?_)
            refine lv_iload hx hb dL_law_159 (lv_at hl 1 rfl) ?_
            refine g_callS (As := [.ref (x0), .ref (q 0), .ref (q 1), .ref (q 2), .ref (q 3), .int (iI (y_11)), .int (iI (x_7))]) (rest := []) K (c_L_goesOn hn hst hI hk hM hd hF y_11 x_7 hy_11 hx_7) (va_cwS 7 hts (gd_L gL_L_goesOn) rfl rfl rfl (by decide +kernel) ⟨Nat.le_of_ble_eq_true rfl, Nat.le_of_ble_eq_true rfl⟩) hK hW rfl hl.1 rfl (Nat.le_of_ble_eq_true rfl) dL_law_161 ⟨by rw [hrc]; omega, by rw [hrs]; omega⟩ (fun v_ f H locs hp hW => ?_)
            obtain ⟨hpv, T, M1, hF, ha⟩ := hp
            subst hpv
            refine lv_istore (lv' := [(8, .int (iI (1))), (12, .int (iI (z_8))), (11, .int (iI (x_7))), (10, .int (iI (x_6))), (0, .ref (b)), (1, .ref (x0)), (2, .ref (q 0)), (3, .ref (q 1)), (4, .ref (q 2)), (5, .ref (q 3)), (6, .ref (q 4)), (7, .ref (q 5)), (9, .int (iI ((n : Int))))]) hx hb dL_law_164 hl (by decide) rfl (fun ls hl => ?_)
            refine lv_iload hx hb dL_law_166 (lv_at hl 0 rfl) ?_
            refine xi_if_eq (tgt := 209) hx hb ⟨by omega, by omega⟩ dL_law_168 (by decide) (fun c_12 => ?_) (fun c_12 => ?_)
            · exfalso
              omega
            · refine lv_aload_n hx hb dL_law_171 rfl (lv_at hl 5 rfl) ?_
              refine lv_aload_n hx hb dL_law_172 rfl (lv_at hl 6 rfl) ?_
              refine lv_aload_n hx hb dL_law_173 rfl (lv_at hl 7 rfl) ?_
              refine lv_aload hx hb dL_law_174 (lv_at hl 8 rfl) ?_
              refine lv_aload hx hb dL_law_176 (lv_at hl 9 rfl) ?_
              refine lv_aload hx hb dL_law_178 (lv_at hl 10 rfl) ?_
              refine lv_aload hx hb dL_law_180 (lv_at hl 11 rfl) ?_
              refine g_callS (As := [.ref (x0), .ref (q 0), .ref (q 1), .ref (q 2), .ref (q 3), .ref (q 4), .ref (q 5)]) (rest := []) K (c_L_isBook (n := n + 1) (by omega) hst ha.1 ha.2.1 ha.2.2.1 ha.2.2.2.1 ha.2.2.2.2.1 hI.1.1.1 hk.1 hk.2.2.1 hF) (va_cwS 7 hts (gd_L gL_L_isBook) rfl rfl rfl (by decide +kernel) ⟨Nat.le_of_ble_eq_true rfl, Nat.le_of_ble_eq_true rfl⟩) hK hW rfl hl.1 rfl (Nat.le_of_ble_eq_true rfl) dL_law_182 ⟨by rw [hrc]; omega, by rw [hrs]; omega⟩ (fun v_ f H locs hp hW => ?_)
              obtain ⟨hpv, M2, hF, hM2, hm2⟩ := hp
              subst hpv
              refine xi_if_eq (tgt := 209) hx hb ⟨by omega, by omega⟩ dL_law_185 (by decide) (fun c_13 => ?_) (fun c_13 => ?_)
              · exfalso
                omega
              · refine lv_aload_n hx hb dL_law_188 rfl (lv_at hl 5 rfl) ?_
                refine lv_aload_n hx hb dL_law_189 rfl (lv_at hl 6 rfl) ?_
                refine lv_aload_n hx hb dL_law_190 rfl (lv_at hl 7 rfl) ?_
                refine lv_aload hx hb dL_law_191 (lv_at hl 8 rfl) ?_
                refine lv_aload hx hb dL_law_193 (lv_at hl 9 rfl) ?_
                refine lv_iload hx hb dL_law_195 (lv_at hl 2 rfl) ?_
                refine xi_iconst hx hb dL_law_197 ?_
                refine xi_ishr hx hb dL_law_198 (fun y_14 hy_14 => ?_)
                refine g_callS (As := [.ref (x0), .ref (q 0), .ref (q 1), .ref (q 2), .ref (q 3), .int (iI (y_14))]) (rest := []) K (c_L_areQueues (n := n + 1) (by omega) hst ha.1 (by rw [hm2]; exact ha.2.1) hM2 hF y_14 hy_14) (va_cwS 6 hts (gd_L gL_L_areQueues) rfl rfl rfl (by decide +kernel) ⟨Nat.le_of_ble_eq_true rfl, Nat.le_of_ble_eq_true rfl⟩) hK hW rfl hl.1 rfl (Nat.le_of_ble_eq_true rfl) dL_law_199 ⟨by rw [hrc]; omega, by rw [hrs]; omega⟩ (fun v_ f H locs hp hW => ?_)
                obtain ⟨hpv, hF⟩ := hp
                subst hpv
                refine xi_if_eq (tgt := 209) hx hb ⟨by omega, by omega⟩ dL_law_202 (by decide) (fun c_15 => ?_) (fun c_15 => ?_)
                · exfalso
                  omega
                · refine xi_iconst hx hb dL_law_205 ?_
                  refine lv_goto (tgt := 210) hx hb dL_law_206 (by decide) ?_
                  refine lv_istore (lv' := [(8, .int (iI (1))), (12, .int (iI (z_8))), (11, .int (iI (x_7))), (10, .int (iI (x_6))), (0, .ref (b)), (1, .ref (x0)), (2, .ref (q 0)), (3, .ref (q 1)), (4, .ref (q 2)), (5, .ref (q 3)), (6, .ref (q 4)), (7, .ref (q 5)), (9, .int (iI ((n : Int))))]) hx hb dL_law_210 hl (by decide) rfl (fun ls hl => ?_)
                  refine xi_iinc (lv' := [(9, .int (iI ((n : Int) + 1))), (8, .int (iI (1))), (12, .int (iI (z_8))), (11, .int (iI (x_7))), (10, .int (iI (x_6))), (0, .ref (b)), (1, .ref (x0)), (2, .ref (q 0)), (3, .ref (q 1)), (4, .ref (q 2)), (5, .ref (q 3)), (6, .ref (q 4)), (7, .ref (q 5))]) hx hb dL_law_212 hl (k := 12) rfl (by decide) rfl (fun ls hl => ?_)
                  refine lv_goto (tgt := 57) hx hb dL_law_215 (by decide) ?_
                  have en : (n : Int) + 1 = ((n + 1 : Nat) : Int) := by omega
                  rw [en] at hl
                  exact W.widen (by omega) (by omega) (ih_lp_3 (n + 1) H locs ls (by omega) ⟨f, T, M2, ⟨by omega, ha.1, by rw [hm2]; exact ha.2.1, hM2, by have := ha.2.2.2.2.2; omega⟩, hF, hW, lv_sub hl [5, 6, 7, 8, 9, 10, 11, 12, 1, 0] rfl⟩)
          · refine lv_aload_n hx hb dL_law_132 rfl (lv_at hl 4 rfl) ?_
            refine lv_aload_n hx hb dL_law_133 rfl (lv_at hl 5 rfl) ?_
            refine lv_aload hx hb dL_law_134 (lv_at hl 10 rfl) ?_
            refine lv_iload hx hb dL_law_136 (lv_at hl 2 rfl) ?_
            refine xi_iconst hx hb dL_law_138 ?_
            refine xi_ishr hx hb dL_law_139 (fun y_16 hy_16 => ?_)
            refine lv_iload hx hb dL_law_140 (lv_at hl 1 rfl) ?_
            refine g_callS (As := [.ref (x0), .ref (q 0), .ref (q 5), .int (iI (y_16)), .int (iI (x_7))]) (rest := []) K (c_L_changes hn hst hI hk hM hd hF y_16 x_7 hy_16 hx_7) (va_cwS 5 hts (gd_L gL_L_changes) rfl rfl rfl (by decide +kernel) ⟨Nat.le_of_ble_eq_true rfl, Nat.le_of_ble_eq_true rfl⟩) hK hW rfl hl.1 rfl (Nat.le_of_ble_eq_true rfl) dL_law_142 ⟨by rw [hrc]; omega, by rw [hrs]; omega⟩ (fun v_ f H locs hp hW => ?_)
            obtain ⟨hpv, T, M1, hF, ha⟩ := hp
            subst hpv
            refine lv_goto (tgt := 164) hx hb dL_law_145 (by decide) ?_
            refine lv_istore (lv' := [(8, .int (iI (1))), (12, .int (iI (z_8))), (11, .int (iI (x_7))), (10, .int (iI (x_6))), (0, .ref (b)), (1, .ref (x0)), (2, .ref (q 0)), (3, .ref (q 1)), (4, .ref (q 2)), (5, .ref (q 3)), (6, .ref (q 4)), (7, .ref (q 5)), (9, .int (iI ((n : Int))))]) hx hb dL_law_164 hl (by decide) rfl (fun ls hl => ?_)
            refine lv_iload hx hb dL_law_166 (lv_at hl 0 rfl) ?_
            refine xi_if_eq (tgt := 209) hx hb ⟨by omega, by omega⟩ dL_law_168 (by decide) (fun c_17 => ?_) (fun c_17 => ?_)
            · exfalso
              omega
            · refine lv_aload_n hx hb dL_law_171 rfl (lv_at hl 5 rfl) ?_
              refine lv_aload_n hx hb dL_law_172 rfl (lv_at hl 6 rfl) ?_
              refine lv_aload_n hx hb dL_law_173 rfl (lv_at hl 7 rfl) ?_
              refine lv_aload hx hb dL_law_174 (lv_at hl 8 rfl) ?_
              refine lv_aload hx hb dL_law_176 (lv_at hl 9 rfl) ?_
              refine lv_aload hx hb dL_law_178 (lv_at hl 10 rfl) ?_
              refine lv_aload hx hb dL_law_180 (lv_at hl 11 rfl) ?_
              refine g_callS (As := [.ref (x0), .ref (q 0), .ref (q 1), .ref (q 2), .ref (q 3), .ref (q 4), .ref (q 5)]) (rest := []) K (c_L_isBook (n := n + 1) (by omega) hst ha.1 ha.2.1 ha.2.2.1 ha.2.2.2.1 ha.2.2.2.2.1 hI.1.1.1 hk.1 hk.2.2.1 hF) (va_cwS 7 hts (gd_L gL_L_isBook) rfl rfl rfl (by decide +kernel) ⟨Nat.le_of_ble_eq_true rfl, Nat.le_of_ble_eq_true rfl⟩) hK hW rfl hl.1 rfl (Nat.le_of_ble_eq_true rfl) dL_law_182 ⟨by rw [hrc]; omega, by rw [hrs]; omega⟩ (fun v_ f H locs hp hW => ?_)
              obtain ⟨hpv, M2, hF, hM2, hm2⟩ := hp
              subst hpv
              refine xi_if_eq (tgt := 209) hx hb ⟨by omega, by omega⟩ dL_law_185 (by decide) (fun c_18 => ?_) (fun c_18 => ?_)
              · exfalso
                omega
              · refine lv_aload_n hx hb dL_law_188 rfl (lv_at hl 5 rfl) ?_
                refine lv_aload_n hx hb dL_law_189 rfl (lv_at hl 6 rfl) ?_
                refine lv_aload_n hx hb dL_law_190 rfl (lv_at hl 7 rfl) ?_
                refine lv_aload hx hb dL_law_191 (lv_at hl 8 rfl) ?_
                refine lv_aload hx hb dL_law_193 (lv_at hl 9 rfl) ?_
                refine lv_iload hx hb dL_law_195 (lv_at hl 2 rfl) ?_
                refine xi_iconst hx hb dL_law_197 ?_
                refine xi_ishr hx hb dL_law_198 (fun y_19 hy_19 => ?_)
                refine g_callS (As := [.ref (x0), .ref (q 0), .ref (q 1), .ref (q 2), .ref (q 3), .int (iI (y_19))]) (rest := []) K (c_L_areQueues (n := n + 1) (by omega) hst ha.1 (by rw [hm2]; exact ha.2.1) hM2 hF y_19 hy_19) (va_cwS 6 hts (gd_L gL_L_areQueues) rfl rfl rfl (by decide +kernel) ⟨Nat.le_of_ble_eq_true rfl, Nat.le_of_ble_eq_true rfl⟩) hK hW rfl hl.1 rfl (Nat.le_of_ble_eq_true rfl) dL_law_199 ⟨by rw [hrc]; omega, by rw [hrs]; omega⟩ (fun v_ f H locs hp hW => ?_)
                obtain ⟨hpv, hF⟩ := hp
                subst hpv
                refine xi_if_eq (tgt := 209) hx hb ⟨by omega, by omega⟩ dL_law_202 (by decide) (fun c_20 => ?_) (fun c_20 => ?_)
                · exfalso
                  omega
                · refine xi_iconst hx hb dL_law_205 ?_
                  refine lv_goto (tgt := 210) hx hb dL_law_206 (by decide) ?_
                  refine lv_istore (lv' := [(8, .int (iI (1))), (12, .int (iI (z_8))), (11, .int (iI (x_7))), (10, .int (iI (x_6))), (0, .ref (b)), (1, .ref (x0)), (2, .ref (q 0)), (3, .ref (q 1)), (4, .ref (q 2)), (5, .ref (q 3)), (6, .ref (q 4)), (7, .ref (q 5)), (9, .int (iI ((n : Int))))]) hx hb dL_law_210 hl (by decide) rfl (fun ls hl => ?_)
                  refine xi_iinc (lv' := [(9, .int (iI ((n : Int) + 1))), (8, .int (iI (1))), (12, .int (iI (z_8))), (11, .int (iI (x_7))), (10, .int (iI (x_6))), (0, .ref (b)), (1, .ref (x0)), (2, .ref (q 0)), (3, .ref (q 1)), (4, .ref (q 2)), (5, .ref (q 3)), (6, .ref (q 4)), (7, .ref (q 5))]) hx hb dL_law_212 hl (k := 12) rfl (by decide) rfl (fun ls hl => ?_)
                  refine lv_goto (tgt := 57) hx hb dL_law_215 (by decide) ?_
                  have en : (n : Int) + 1 = ((n + 1 : Nat) : Int) := by omega
                  rw [en] at hl
                  exact W.widen (by omega) (by omega) (ih_lp_3 (n + 1) H locs ls (by omega) ⟨f, T, M2, ⟨by omega, ha.1, by rw [hm2]; exact ha.2.1, hM2, by have := ha.2.2.2.2.2; omega⟩, hF, hW, lv_sub hl [5, 6, 7, 8, 9, 10, 11, 12, 1, 0] rfl⟩)
        · refine lv_aload_n hx hb dL_law_106 rfl (lv_at hl 4 rfl) ?_
          refine lv_aload_n hx hb dL_law_107 rfl (lv_at hl 5 rfl) ?_
          refine lv_aload_n hx hb dL_law_108 rfl (lv_at hl 6 rfl) ?_
          refine lv_aload hx hb dL_law_109 (lv_at hl 7 rfl) ?_
          refine lv_aload hx hb dL_law_111 (lv_at hl 8 rfl) ?_
          refine lv_iload hx hb dL_law_113 (lv_at hl 2 rfl) ?_
          refine xi_iconst hx hb dL_law_115 ?_
          refine xi_ishr hx hb dL_law_116 (fun y_21 hy_21 => ?_)
          refine lv_iload hx hb dL_law_117 (lv_at hl 1 rfl) ?_
          refine g_callS (As := [.ref (x0), .ref (q 0), .ref (q 1), .ref (q 2), .ref (q 3), .int (iI (y_21)), .int (iI (x_7))]) (rest := []) K (c_L_sends hn hst hI hk hM hd hF y_21 x_7 hy_21 hx_7) (va_cwS 7 hts (gd_L gL_L_sends) rfl rfl rfl (by decide +kernel) ⟨Nat.le_of_ble_eq_true rfl, Nat.le_of_ble_eq_true rfl⟩) hK hW rfl hl.1 rfl (Nat.le_of_ble_eq_true rfl) dL_law_119 ⟨by rw [hrc]; omega, by rw [hrs]; omega⟩ (fun v_ f H locs hp hW => ?_)
          obtain ⟨hpv, T, M1, hF, ha⟩ := hp
          subst hpv
          refine lv_goto (tgt := 164) hx hb dL_law_122 (by decide) ?_
          refine lv_istore (lv' := [(8, .int (iI (1))), (12, .int (iI (z_8))), (11, .int (iI (x_7))), (10, .int (iI (x_6))), (0, .ref (b)), (1, .ref (x0)), (2, .ref (q 0)), (3, .ref (q 1)), (4, .ref (q 2)), (5, .ref (q 3)), (6, .ref (q 4)), (7, .ref (q 5)), (9, .int (iI ((n : Int))))]) hx hb dL_law_164 hl (by decide) rfl (fun ls hl => ?_)
          refine lv_iload hx hb dL_law_166 (lv_at hl 0 rfl) ?_
          refine xi_if_eq (tgt := 209) hx hb ⟨by omega, by omega⟩ dL_law_168 (by decide) (fun c_22 => ?_) (fun c_22 => ?_)
          · exfalso
            omega
          · refine lv_aload_n hx hb dL_law_171 rfl (lv_at hl 5 rfl) ?_
            refine lv_aload_n hx hb dL_law_172 rfl (lv_at hl 6 rfl) ?_
            refine lv_aload_n hx hb dL_law_173 rfl (lv_at hl 7 rfl) ?_
            refine lv_aload hx hb dL_law_174 (lv_at hl 8 rfl) ?_
            refine lv_aload hx hb dL_law_176 (lv_at hl 9 rfl) ?_
            refine lv_aload hx hb dL_law_178 (lv_at hl 10 rfl) ?_
            refine lv_aload hx hb dL_law_180 (lv_at hl 11 rfl) ?_
            refine g_callS (As := [.ref (x0), .ref (q 0), .ref (q 1), .ref (q 2), .ref (q 3), .ref (q 4), .ref (q 5)]) (rest := []) K (c_L_isBook (n := n + 1) (by omega) hst ha.1 ha.2.1 ha.2.2.1 ha.2.2.2.1 ha.2.2.2.2.1 hI.1.1.1 hk.1 hk.2.2.1 hF) (va_cwS 7 hts (gd_L gL_L_isBook) rfl rfl rfl (by decide +kernel) ⟨Nat.le_of_ble_eq_true rfl, Nat.le_of_ble_eq_true rfl⟩) hK hW rfl hl.1 rfl (Nat.le_of_ble_eq_true rfl) dL_law_182 ⟨by rw [hrc]; omega, by rw [hrs]; omega⟩ (fun v_ f H locs hp hW => ?_)
            obtain ⟨hpv, M2, hF, hM2, hm2⟩ := hp
            subst hpv
            refine xi_if_eq (tgt := 209) hx hb ⟨by omega, by omega⟩ dL_law_185 (by decide) (fun c_23 => ?_) (fun c_23 => ?_)
            · exfalso
              omega
            · refine lv_aload_n hx hb dL_law_188 rfl (lv_at hl 5 rfl) ?_
              refine lv_aload_n hx hb dL_law_189 rfl (lv_at hl 6 rfl) ?_
              refine lv_aload_n hx hb dL_law_190 rfl (lv_at hl 7 rfl) ?_
              refine lv_aload hx hb dL_law_191 (lv_at hl 8 rfl) ?_
              refine lv_aload hx hb dL_law_193 (lv_at hl 9 rfl) ?_
              refine lv_iload hx hb dL_law_195 (lv_at hl 2 rfl) ?_
              refine xi_iconst hx hb dL_law_197 ?_
              refine xi_ishr hx hb dL_law_198 (fun y_24 hy_24 => ?_)
              refine g_callS (As := [.ref (x0), .ref (q 0), .ref (q 1), .ref (q 2), .ref (q 3), .int (iI (y_24))]) (rest := []) K (c_L_areQueues (n := n + 1) (by omega) hst ha.1 (by rw [hm2]; exact ha.2.1) hM2 hF y_24 hy_24) (va_cwS 6 hts (gd_L gL_L_areQueues) rfl rfl rfl (by decide +kernel) ⟨Nat.le_of_ble_eq_true rfl, Nat.le_of_ble_eq_true rfl⟩) hK hW rfl hl.1 rfl (Nat.le_of_ble_eq_true rfl) dL_law_199 ⟨by rw [hrc]; omega, by rw [hrs]; omega⟩ (fun v_ f H locs hp hW => ?_)
              obtain ⟨hpv, hF⟩ := hp
              subst hpv
              refine xi_if_eq (tgt := 209) hx hb ⟨by omega, by omega⟩ dL_law_202 (by decide) (fun c_25 => ?_) (fun c_25 => ?_)
              · exfalso
                omega
              · refine xi_iconst hx hb dL_law_205 ?_
                refine lv_goto (tgt := 210) hx hb dL_law_206 (by decide) ?_
                refine lv_istore (lv' := [(8, .int (iI (1))), (12, .int (iI (z_8))), (11, .int (iI (x_7))), (10, .int (iI (x_6))), (0, .ref (b)), (1, .ref (x0)), (2, .ref (q 0)), (3, .ref (q 1)), (4, .ref (q 2)), (5, .ref (q 3)), (6, .ref (q 4)), (7, .ref (q 5)), (9, .int (iI ((n : Int))))]) hx hb dL_law_210 hl (by decide) rfl (fun ls hl => ?_)
                refine xi_iinc (lv' := [(9, .int (iI ((n : Int) + 1))), (8, .int (iI (1))), (12, .int (iI (z_8))), (11, .int (iI (x_7))), (10, .int (iI (x_6))), (0, .ref (b)), (1, .ref (x0)), (2, .ref (q 0)), (3, .ref (q 1)), (4, .ref (q 2)), (5, .ref (q 3)), (6, .ref (q 4)), (7, .ref (q 5))]) hx hb dL_law_212 hl (k := 12) rfl (by decide) rfl (fun ls hl => ?_)
                refine lv_goto (tgt := 57) hx hb dL_law_215 (by decide) ?_
                have en : (n : Int) + 1 = ((n + 1 : Nat) : Int) := by omega
                rw [en] at hl
                exact W.widen (by omega) (by omega) (ih_lp_3 (n + 1) H locs ls (by omega) ⟨f, T, M2, ⟨by omega, ha.1, by rw [hm2]; exact ha.2.1, hM2, by have := ha.2.2.2.2.2; omega⟩, hF, hW, lv_sub hl [5, 6, 7, 8, 9, 10, 11, 12, 1, 0] rfl⟩)
