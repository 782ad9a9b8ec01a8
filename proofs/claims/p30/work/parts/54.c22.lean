set_option maxHeartbeats 4000000 in
set_option maxRecDepth 100000 in
theorem c_Jxa1e45_init_da8c8 {l : Launch} {D : va_G} {cy : Nat → ClassId} {B0 : Nat} {f : gF} {i a : Nat}  (hi : f i = some (a, .inr (0, [.int (iI 0), .null, .int (iI 0)]))) : gM l yJxa1e45_init_da8c8 vJxa1e45_init_da8c8 1 24 D cy B0 [.ref (a)] (f) (fun r g_ => r = none ∧ g_ = f) 0 0 := by
  refine g_start (cc := cJxa1e45_init_da8c8) (maxL := 1) (ret := none) (by decide) rfl (Nat.le_of_ble_eq_true rfl) ?_
  intro p_ e_ s_ m_ be_ me_ co_ ls H locs K hr hlk hnm hK hW hl
  obtain ⟨hx, hb, hml, hown, hts⟩ := id K
  have hl : lv_has ls 1 [(0, .ref (a))] := hl
  refine lv_aload_n hx hb dJxa1e45_init_da8c8_0 rfl (lv_at hl 0 rfl) ?_
  refine W.objInit hx hb hown (hts _ (wsC_sub _ wsCw_0)) (hts _ (wsC_sub _ wsCw_1)) (hts _ (wsC_sub _ wsCw_2)) rfl (by rw [hml]; exact hl.1) rfl dJxa1e45_init_da8c8_1 (Nat.le_of_ble_eq_true rfl) (Nat.le_of_ble_eq_true rfl) ?_
  refine W.eq (g2 := F0 m_ 4 ls []) rfl ?_
  exact g_vret hx hb hr hW ⟨rfl, rfl⟩ dJxa1e45_init_da8c8_4 hlk
set_option maxHeartbeats 4000000 in
set_option maxRecDepth 100000 in
theorem c_Jxc12de_init_da8c8 {l : Launch} {D : va_G} {cy : Nat → ClassId} {B0 : Nat} {f : gF} {i a : Nat}  (hi : f i = some (a, .inr (0, [.int (iI 0), .null, .int (iI 0)]))) : gM l yJxc12de_init_da8c8 vJxc12de_init_da8c8 2 44 D cy B0 [.ref (a)] (f) (fun r g_ => r = none ∧ g_ = gup f i a (.inr (0, [.int (iI 0), .null, .int (iI 0)]))) 0 0 := by
  refine g_start (cc := cJxc12de_init_da8c8) (maxL := 1) (ret := none) (by decide) rfl (Nat.le_of_ble_eq_true rfl) ?_
  intro p_ e_ s_ m_ be_ me_ co_ ls H locs K hr hlk hnm hK hW hl
  obtain ⟨hx, hb, hml, hown, hts⟩ := id K
  have hl : lv_has ls 1 [(0, .ref (a))] := hl
  refine lv_aload_n hx hb dJxc12de_init_da8c8_0 rfl (lv_at hl 0 rfl) ?_
  refine g_callI (As := []) (rest := []) K (c_Jxa1e45_init_da8c8 hi) (cwI 0 hts gC_Jxa1e45_init_da8c8 rfl rfl rfl (hts _ iC_Jxa1e45) (hts _ gC_Jxc12de_1) (hts _ sC_Jxa1e45_init_da8c8) rfl (by decide +kernel) ⟨Nat.le_of_ble_eq_true rfl, Nat.le_of_ble_eq_true rfl⟩) hK hW rfl hl.1 rfl (Nat.le_of_ble_eq_true rfl) dJxc12de_init_da8c8_1 ⟨Nat.le_refl _, Nat.le_refl _⟩ (fun v_ f_ H locs hp hW => ?_)
  obtain ⟨hpv, hpe⟩ := hp
  rw [hpe] at hW
  subst hpv
  refine lv_aload_n hx hb dJxc12de_init_da8c8_4 rfl (lv_at hl 0 rfl) ?_
  refine xi_iconst hx hb dJxc12de_init_da8c8_5 ?_
  refine g_put (ref := RJxc12de) (T := TJx4a65c) (N := 3) (ci := 0) (ty := .int) (v := .int (iI (0))) hx hb hts wsC_Jx4a65c tyJx4a65c tyJx4a65c_ok nmJx4a65c hown hK hW i hi rfl 0 (by decide) (hts _ lC_Jxc12de_7) (fun x h => h) rfl (by decide +kernel) rfl rfl (show 0 < 3 by decide) dJxc12de_init_da8c8_6 (fun H locs hW => ?_)
  exact g_vret hx hb hr hW ⟨rfl, rfl⟩ dJxc12de_init_da8c8_9 hlk
set_option maxHeartbeats 4000000 in
set_option maxRecDepth 100000 in
theorem c_Jx4a65c_init_da8c8 {l : Launch} {D : va_G} {cy : Nat → ClassId} {B0 : Nat} {f : gF} {i a : Nat}  (hi : f i = some (a, .inr (0, [.int (iI 0), .null, .int (iI 0)]))) : gM l yJx4a65c_init_da8c8 vJx4a65c_init_da8c8 3 64 D cy B0 [.ref (a)] (f) (fun r g_ => r = none ∧ g_ = gup f i a (.inr (0, [.int (iI 0), .ref (D.1 21), .int (iI 0)]))) 0 0 := by
  refine g_start (cc := cJx4a65c_init_da8c8) (maxL := 1) (ret := none) (by decide) rfl (Nat.le_of_ble_eq_true rfl) ?_
  intro p_ e_ s_ m_ be_ me_ co_ ls H locs K hr hlk hnm hK hW hl
  obtain ⟨hx, hb, hml, hown, hts⟩ := id K
  have hl : lv_has ls 1 [(0, .ref (a))] := hl
  refine lv_aload_n hx hb dJx4a65c_init_da8c8_0 rfl (lv_at hl 0 rfl) ?_
  refine g_callI (As := []) (rest := []) K (c_Jxc12de_init_da8c8 hi) (cwI 0 hts gC_Jxc12de_init_da8c8 rfl rfl rfl (hts _ iC_Jxc12de) (hts _ gC_Jx4a65c_1) (hts _ sC_Jxc12de_init_da8c8) rfl (by decide +kernel) ⟨Nat.le_of_ble_eq_true rfl, Nat.le_of_ble_eq_true rfl⟩) hK hW rfl hl.1 rfl (Nat.le_of_ble_eq_true rfl) dJx4a65c_init_da8c8_1 ⟨Nat.le_refl _, Nat.le_refl _⟩ (fun v_ f_ H locs hp hW => ?_)
  obtain ⟨hpv, hpe⟩ := hp
  rw [hpe] at hW
  subst hpv
  refine lv_aload_n hx hb dJx4a65c_init_da8c8_4 rfl (lv_at hl 0 rfl) ?_
  refine g_gets hx hb hW hown (hts _ lC_Jx4a65c_39) dJx4a65c_init_da8c8_5 ?_
  refine g_put (ref := RJx4a65c) (T := TJx4a65c) (N := 3) (ci := 0) (ty := .array (.object "java/lang/Object")) (v := .ref (D.1 21)) hx hb hts wsC_Jx4a65c tyJx4a65c tyJx4a65c_ok nmJx4a65c hown hK hW i (gup_s _ _ _ _) rfl 1 (by decide) (hts _ lC_Jx4a65c_9) (fun x h => h) rfl (by decide +kernel) rfl rfl (show 1 < 3 by decide) dJx4a65c_init_da8c8_8 (fun H locs hW => ?_)
  rw [gup_gup] at hW
  exact g_vret hx hb hr hW ⟨rfl, rfl⟩ dJx4a65c_init_da8c8_11 hlk
set_option maxHeartbeats 4000000 in
set_option maxRecDepth 100000 in
theorem c_X9_init {l : Launch} {D : va_G} {cy : Nat → ClassId} {B0 : Nat} {f : gF} {i a : Nat} (j n : Nat) (hi : f i = some (a, .inr (10, [.null]))) (hij : i ≠ j) (hn : n ≤ 100000) : gM l yX9_init vX9_init 1 24 D cy B0 [.ref a, .int (iI (n : Int))] f (fun r g_ => ∃ b : Nat, r = none ∧ g_ = gup (gup f j b (cR cy n (fun _ => 0))) i a (.inr (10, [.ref b]))) 1 n := by
  refine g_start (cc := cX9_init) (maxL := 2) (ret := none) (by decide) rfl (Nat.le_of_ble_eq_true rfl) ?_
  intro p_ e_ s_ m_ be_ me_ co_ ls H locs K hr hlk hnm hK hW hl
  obtain ⟨hx, hb, hml, hown, hts⟩ := id K
  have hl : lv_has ls 2 [(0, .ref a), (1, .int (iI (n : Int)))] := hl
  refine lv_aload_n hx hb dX9_init_0 rfl (lv_at hl 0 rfl) ?_
  refine W.objInit hx hb hown (hts _ (wsC_sub _ wsCw_22)) (hts _ (wsC_sub _ wsCw_1)) (hts _ (wsC_sub _ wsCw_2)) rfl (by rw [hml]; exact hl.1) rfl dX9_init_1 (Nat.le_of_ble_eq_true rfl) (Nat.le_of_ble_eq_true rfl) ?_
  refine W.eq (g2 := F0 m_ 4 ls []) rfl ?_
  refine lv_aload_n hx hb dX9_init_4 rfl (lv_at hl 0 rfl) ?_
  refine lv_iload_n hx hb dX9_init_5 rfl (lv_at hl 1 rfl) ?_
  refine xi_iconst hx hb dX9_init_6 ?_
  refine va_mmax hx hb (by rw [hml]; exact hl.1.symm) hown (hts _ (wsC_sub _ wsCw_23)) (hts _ (wsC_sub _ wsCw_24)) (hts _ (wsC_sub _ wsCw_25)) (hts _ (wsC_sub _ wsCw_26)) (Nat.le_of_ble_eq_true rfl) (Nat.le_of_ble_eq_true rfl) (by show 0 ≤ 1; omega) (by show 0 ≤ n; omega) dX9_init_7 ?_
  rw [iI_max ⟨by omega, by omega⟩ ⟨by omega, by omega⟩, if_neg (show ¬ (n : Int) < 0 by omega)]
  refine g_newa (atype := .long) (ci := 1) (ty := .long) hx hb (hts _ aC_long) rfl hK rfl (fun cA h => Option.some.inj (h.symm.trans ((hK.1.2 1 (cy 1, .long) rfl).2))) hW j (N' := n) (a0 := (n, .inr (.inl (lA (fun _ => 0))))) (fun _ => rfl) (nI_nn n hn) (nI_cl n hn) (show n * 8 ≤ 536870912 by omega) (Nat.le_refl _) (by show 0 + n ≤ n; omega) dX9_init_10 (fun q H hW hne => ?_)
  refine g_putF (ref := RX9) (T := TX9) (N := 1) (ci := 10) (ty := .array .long) hx hb hts wsC_X9 tyX9 tyX9_ok nmX9 hown hK hW i (fs := [.null]) (by rw [gup_n _ _ _ hij]; exact hi) rfl 0 (by decide) (hts _ lC_X9_13) (fun x h => h) rfl hnm rfl (by decide +kernel) rfl rfl (show 0 < 1 by decide) dX9_init_12 (fun H locs hW => ?_)
  exact W.widen (by show 0 + 1 ≤ 1; omega) (by show 0 + n ≤ n; omega) (g_vret hx hb hr hW ⟨q, rfl, rfl⟩ dX9_init_15 hlk)
