theorem flags_no {l : Launch} (h : l.flags = flags0) : l.stackTraces = false := by
  unfold Launch.stackTraces
  rw [h]
  decide +kernel
theorem cW_b {cy : Nat → ClassId} {ix : Nat → Nat} {q : Nat} {G : gF} (hG : ∀ i : Nat, i < 100000 → G i = none) : gup G 0 q (.inr (13, cV ix 1)) = cW cy q ix 1 G := by
  funext i
  unfold gup cW
  by_cases h : i = 0
  · rw [if_pos h, h, if_pos (by decide), if_pos rfl]
  · rw [if_neg h]
    by_cases h2 : i < 100000
    · rw [if_pos h2, if_neg h, if_neg (by omega), hG i h2]
    · rw [if_neg h2]
theorem lw_born {cy : Nat → ClassId} {ix ad bk : Nat → Nat} {X : CX} {X' : ST} {o : Nat} {v : Nat → Int64} {f : gF} : ∀ (i : Nat) (r : Nat × va_E), kW cy ad bk sIni X (lwG cy ix o sIni X' v) i = some r → gup (mW cy ix sIni X' (kW cy ad bk sIni X f)) 99999 o (outE cy v) i = some r := by
  intro i r h
  unfold kW lwG at h
  unfold gup mW kW
  by_cases h1 : i = 99999
  · rw [if_pos h1]
    rw [if_neg (by omega), if_pos h1] at h
    exact h
  · rw [if_neg h1]
    by_cases h2 : 100000 ≤ i
    · rw [if_pos h2] at h
      rw [if_neg (by omega), if_pos h2]
      exact h
    · rw [if_neg h2, if_neg h1, if_pos (by omega)] at h
      rw [if_pos (by omega)]
      exact h
set_option maxHeartbeats 4000000 in
set_option maxRecDepth 100000 in
theorem whole_start {p : Program} {e : Env} {s : State} {m : MethodId} {below : List Frame} {meth : Method} {c : Code} (l : Launch) (hflags : l.flags = flags0) {b L : Nat} {xs : Nat → Int32} (hL : L ≤ 5632) (C0 : lw_At p s m meth c b L xs) : W p l e room_1 s m #[Value.ref b] below meth c s.heap [] 0 0 (lw_Z below #[Value.ref b] s) (entryFrame m ([Value.ref b] : List Value).toArray 8) := by
  obtain ⟨D, cy, hK, hZ⟩ := lw_gK C0
  obtain ⟨hx, hb, hr, hml, hown, hts, hX, hbl, hlocks, hgv⟩ := C0
  have hb : c.code = cL_law := hb
  have hown : s.vm.findClass RL = some m.cls := hown
  have K : CallFix p m c cL_law 8 s #[Value.ref b] lw_tbl RL := ⟨hx, hb, hml, hown, hts⟩
  have hW : gW D s.heap.size s (fun _ => none) s.heap [] := ⟨⟨fun i q h => (by cases h), fun i j q r h => (by cases h)⟩, va_S.rf, Nat.le_refl _, hZ⟩
  have hl := lv_entry ([.ref b]) (n := 8) (Nat.le_of_ble_eq_true rfl)
  rw [lg_entry_eq]
  generalize (lg_sl ([.ref b]) ++ List.replicate (8 - (lg_sl ([.ref b])).length) Slot.unset).toArray = ls at hl ⊢
  have hl : lv_has ls 8 [(0, .ref b)] := hl
  refine g_new (own := RL) (C := RX11) (T := TX11) (N := 1) hx hb hts (fun w h => (wsX110_in w h).1) tyX11 tyX11_ok hown (hts _ (wsT_in _ wK_0).1) (hts _ (wsT_in _ wK_1).1) (hts _ (wsT_in _ (wsC_T _ wsCw_52)).1) hK hW 100000 (ci := 12) rfl (fs := [.null]) (fun j hj => by rcases (show j = 0 by omega) with rfl; rfl) (Nat.le_of_ble_eq_true rfl) (Nat.le_of_ble_eq_true rfl) dL_law_0 (fun q0 H hW hne => ?_)
  refine lv_dup hx hb dL_law_3 rfl ?_
  refine g_callI (As := []) (rest := [.ref q0]) K (c_X11_init (gup_s _ _ _ _)) (cwI 0 hts (gd_L gL_X11_init) rfl rfl rfl (hts _ (wsT_in _ (wsC_T _ wsCw_52)).1) (hts _ (wsT_in _ wK_4).1) (hts _ (wsT_in _ wK_5).1) rfl (by decide +kernel) ⟨Nat.le_of_ble_eq_true rfl, Nat.le_of_ble_eq_true rfl⟩) hK hW rfl hl.1 rfl (Nat.le_of_ble_eq_true rfl) dL_law_4 ⟨Nat.le_of_ble_eq_true rfl, Nat.le_of_ble_eq_true rfl⟩ (fun v_ f_ H locs hp hW => ?_)
  obtain ⟨ad, bk, had0, had11, hbk10, hpv, hpe⟩ := hp
  rw [hpe] at hW
  subst hpv
  refine lv_astore_n (lv' := [(1, .ref q0), (0, .ref b)]) hx hb dL_law_7 rfl hl (by decide) rfl (fun ls hl => ?_)
  refine g_new (own := RL) (C := RX12) (T := TX12) (N := 37) hx hb hts (fun w h => (wsX120_in w h).1) tyX12 tyX12_ok hown (hts _ (wsT_in _ wK_2).1) (hts _ (wsT_in _ wK_3).1) (hts _ (wsT_in _ (wsM_T _ wsMw_41)).1) hK hW 0 (ci := 13) rfl (fs := cV (fun _ => 0) 1) (fun j hj => by rcases (show j = 0 ∨ j = 1 ∨ j = 2 ∨ j = 3 ∨ j = 4 ∨ j = 5 ∨ j = 6 ∨ j = 7 ∨ j = 8 ∨ j = 9 ∨ j = 10 ∨ j = 11 ∨ j = 12 ∨ j = 13 ∨ j = 14 ∨ j = 15 ∨ j = 16 ∨ j = 17 ∨ j = 18 ∨ j = 19 ∨ j = 20 ∨ j = 21 ∨ j = 22 ∨ j = 23 ∨ j = 24 ∨ j = 25 ∨ j = 26 ∨ j = 27 ∨ j = 28 ∨ j = 29 ∨ j = 30 ∨ j = 31 ∨ j = 32 ∨ j = 33 ∨ j = 34 ∨ j = 35 ∨ j = 36 by omega) with rfl | rfl | rfl | rfl | rfl | rfl | rfl | rfl | rfl | rfl | rfl | rfl | rfl | rfl | rfl | rfl | rfl | rfl | rfl | rfl | rfl | rfl | rfl | rfl | rfl | rfl | rfl | rfl | rfl | rfl | rfl | rfl | rfl | rfl | rfl | rfl | rfl <;> rfl) (Nat.le_of_ble_eq_true rfl) (Nat.le_of_ble_eq_true rfl) dL_law_8 (fun q1 H hW hne => ?_)
  rw [cW_b (cy := cy) (ix := fun _ => 0) (q := q1) (G := kW cy ad bk sIni (fun _ => false, fun _ => 0, fun _ => 0) (gup (fun _ => none) 100000 q0 (.inr (12, [.null])))) (fun i hi => by
    unfold kW
    rw [if_neg (by omega), gup_n _ _ _ (by omega)])] at hW
  refine lv_dup hx hb dL_law_11 rfl ?_
  refine g_callI (As := []) (rest := [.ref q1]) K (c_M_init q1 (fun _ => 0)) (cwI 0 hts (gd_L gL_X12_init) rfl rfl rfl (hts _ (wsT_in _ (wsM_T _ wsMw_41)).1) (hts _ (wsT_in _ wK_7).1) (hts _ (wsT_in _ wK_8).1) rfl (by decide +kernel) ⟨Nat.le_of_ble_eq_true rfl, Nat.le_of_ble_eq_true rfl⟩) hK hW rfl hl.1 rfl (Nat.le_of_ble_eq_true rfl) dL_law_12 ⟨Nat.le_of_ble_eq_true rfl, Nat.le_of_ble_eq_true rfl⟩ (fun v_ f_ H locs hp hW => ?_)
  obtain ⟨hpv, ix, hix, hpe⟩ := hp
  rw [hpe] at hW
  subst hpv
  refine lv_astore_n (lv' := [(2, .ref q1), (1, .ref q0), (0, .ref b)]) hx hb dL_law_15 rfl hl (by decide) rfl (fun ls hl => ?_)
  refine xi_iconst hx hb dL_law_16 ?_
  refine g_newa (atype := .long) (ci := 1) (ty := .long) hx hb (hts _ alT) rfl hK rfl (fun cA h => Option.some.inj (h.symm.trans ((hK.1.2 1 (cy 1, .long) rfl).2))) hW 99999 (n := iI 1) (N' := 1) (a0 := (1, .inr (.inl (fun _ => 0)))) (fun _ => rfl) (by decide) (by decide) (Nat.le_of_ble_eq_true rfl) (Nat.le_of_ble_eq_true rfl) (Nat.le_of_ble_eq_true rfl) dL_law_17 (fun q2 H hW hne => ?_)
  refine lv_astore_n (lv' := [(3, .ref q2), (2, .ref q1), (1, .ref q0), (0, .ref b)]) hx hb dL_law_19 rfl hl (by decide) rfl (fun ls hl => ?_)
  refine xi_iconst hx hb dL_law_20 ?_
  refine lv_istore (lv' := [(4, .int (iI 0)), (3, .ref q2), (2, .ref q1), (1, .ref q0), (0, .ref b)]) hx hb dL_law_21 hl (by decide) rfl (fun ls hl => ?_)
  have hW := gW_via hW (lw_born (cy := cy) (ix := ix) (ad := ad) (bk := bk) (X' := Zx) (o := q2) (v := fun _ => 0))
  refine W.widen (k := lcC 0 sIni) (n := lcS 0 sIni) (by unfold lcC; omega) (by unfold lcS; omega) ?_
  refine lw_loop (D := D) (cy := cy) (ix := ix) (o := q2) (x0 := q0) ⟨K, hK, rfl, hX, hbl, hL, flags_no hflags⟩ hr hlocks 513 0 rfl sIni _ _ _ cI_0 ⟨ad, bk, fun _ => false, fun _ => 0, fun _ => 0, fun _ => false, fun _ => 0, fun _ => 0, 0, fun _ => 0, had0, fun _ => had11, fun _ => hbk10, hW, ?_⟩
  rw [hix]
  exact lv_sub hl [4, 3, 2, 1, 0] rfl
