/-! ArrayList: reading -/
abbrev cO (cy : Nat → ClassId) (n : Nat) (g : Nat → Option Nat) : va_E := .inl (cy 3, n, .inr (.inr (.inr (.inr g))))
set_option maxHeartbeats 4000000 in
set_option maxRecDepth 100000 in
theorem c_Jx4a65c_size_8abf5 {l : Launch} {D : va_G} {cy : Nat → ClassId} {B0 : Nat} {f : gF} {i j a b n : Nat} {mc sz : Int} {g : Nat → Option Nat}  (hi : f i = some (a, .inr (0, [.int (iI mc), .ref b, .int (iI sz)]))) : gM l yJx4a65c_size_8abf5 vJx4a65c_size_8abf5 0 0 D cy B0 [.ref (a)] (f) (fun r g_ => r = some (.int (iI sz)) ∧ g_ = f) 0 0 := by
  refine g_start (cc := cJx4a65c_size_8abf5) (maxL := 1) (ret := (some .int)) (by decide) rfl (Nat.le_of_ble_eq_true rfl) ?_
  intro p_ e_ s_ m_ be_ me_ co_ ls H locs K hr hlk hnm hK hW hl
  obtain ⟨hx, hb, hml, hown, hts⟩ := id K
  have hl : lv_has ls 1 [(0, .ref (a))] := hl
  refine lv_aload_n hx hb dJx4a65c_size_8abf5_0 rfl (lv_at hl 0 rfl) ?_
  refine g_get (ref := RJx4a65c) (T := TJx4a65c) (N := 3) (ci := 0) hx hb hts wsC_Jx4a65c hown hK hW i hi rfl 2 (by decide) (hts _ lC_Jx4a65c_48) (fun x h => h) rfl dJx4a65c_size_8abf5_1 ?_
  exact g_iret hx hb hr hW ⟨rfl, rfl⟩ dJx4a65c_size_8abf5_4 hlk
set_option maxHeartbeats 4000000 in
set_option maxRecDepth 100000 in
theorem c_J3_checkIndex_8e157 {l : Launch} {D : va_G} {cy : Nat → ClassId} {B0 : Nat} {f : gF} (z : Int) (n : Int) (hz : 0 ≤ z ∧ z < n) (hn : n ≤ 100000)  : gM l yJ3_checkIndex_8e157 vJ3_checkIndex_8e157 1 24 D cy B0 [.int (iI (z)), .int (iI (n)), .null] (f) (fun r g_ => r = some (.int (iI z)) ∧ g_ = f) 0 0 := by
  refine g_start (cc := cJ3_checkIndex_8e157) (maxL := 3) (ret := (some .int)) (by decide) rfl (Nat.le_of_ble_eq_true rfl) ?_
  intro p_ e_ s_ m_ be_ me_ co_ ls H locs K hr hlk hnm hK hW hl
  obtain ⟨hx, hb, hml, hown, hts⟩ := id K
  have hl : lv_has ls 3 [(0, .int (iI (z))), (1, .int (iI (n))), (2, .null)] := hl
  refine lv_iload_n hx hb dJ3_checkIndex_8e157_0 rfl (lv_at hl 0 rfl) ?_
  refine xi_if_lt (tgt := 9) hx hb ⟨by omega, by omega⟩ dJ3_checkIndex_8e157_1 (by decide) (fun c_1 => ?_) (fun c_1 => ?_)
  · omega
  · refine lv_iload_n hx hb dJ3_checkIndex_8e157_4 rfl (lv_at hl 0 rfl) ?_
    refine lv_iload_n hx hb dJ3_checkIndex_8e157_5 rfl (lv_at hl 1 rfl) ?_
    refine xi_icmp_lt (tgt := 16) hx hb ⟨by omega, by omega⟩ ⟨by omega, by omega⟩ dJ3_checkIndex_8e157_6 (by decide) (fun c_2 => ?_) (fun c_2 => ?_)
    · refine lv_iload_n hx hb dJ3_checkIndex_8e157_16 rfl (lv_at hl 0 rfl) ?_
      exact g_iret hx hb hr hW ⟨rfl, rfl⟩ dJ3_checkIndex_8e157_17 hlk
    · omega
set_option maxHeartbeats 4000000 in
set_option maxRecDepth 100000 in
theorem c_J15_checkIndex_7cf53 {l : Launch} {D : va_G} {cy : Nat → ClassId} {B0 : Nat} {f : gF} (z : Int) (n : Int) (hz : 0 ≤ z ∧ z < n) (hn : n ≤ 100000)  : gM l yJ15_checkIndex_7cf53 vJ15_checkIndex_7cf53 2 46 D cy B0 [.int (iI (z)), .int (iI (n))] (f) (fun r g_ => r = some (.int (iI z)) ∧ g_ = f) 0 0 := by
  refine g_start (cc := cJ15_checkIndex_7cf53) (maxL := 2) (ret := (some .int)) (by decide) rfl (Nat.le_of_ble_eq_true rfl) ?_
  intro p_ e_ s_ m_ be_ me_ co_ ls H locs K hr hlk hnm hK hW hl
  obtain ⟨hx, hb, hml, hown, hts⟩ := id K
  have hl : lv_has ls 2 [(0, .int (iI (z))), (1, .int (iI (n)))] := hl
  refine lv_iload_n hx hb dJ15_checkIndex_7cf53_0 rfl (lv_at hl 0 rfl) ?_
  refine lv_iload_n hx hb dJ15_checkIndex_7cf53_1 rfl (lv_at hl 1 rfl) ?_
  refine lv_null hx hb dJ15_checkIndex_7cf53_2 ?_
  refine g_callS (As := [.int (iI (z)), .int (iI (n)), .null]) (rest := []) K (c_J3_checkIndex_8e157 z n ⟨by omega, by omega⟩ (by omega)) (va_cwS 3 hts gC_J15_105 rfl rfl rfl (by decide +kernel) ⟨Nat.le_of_ble_eq_true rfl, Nat.le_of_ble_eq_true rfl⟩) hK hW rfl hl.1 rfl (Nat.le_of_ble_eq_true rfl) dJ15_checkIndex_7cf53_3 ⟨Nat.le_refl _, Nat.le_refl _⟩ (fun v_ f_ H locs hp hW => ?_)
  obtain ⟨hpv, hpe⟩ := hp
  rw [hpe] at hW
  subst hpv
  exact g_iret hx hb hr hW ⟨rfl, rfl⟩ dJ15_checkIndex_7cf53_6 hlk
set_option maxHeartbeats 4000000 in
set_option maxRecDepth 100000 in
theorem c_Jx4a65c_elementData_915e3 {l : Launch} {D : va_G} {cy : Nat → ClassId} {B0 : Nat} {f : gF} {i j a b n : Nat} {mc sz : Int} {g : Nat → Option Nat} (z : Int) (hi : f i = some (a, .inr (0, [.int (iI mc), .ref b, .int (iI sz)]))) (hj : f j = some (b, cO cy n g)) (hn : n ≤ 100000) (hs : 0 ≤ sz ∧ sz ≤ n) (hz : 0 ≤ z ∧ z < sz) : gM l yJx4a65c_elementData_915e3 vJx4a65c_elementData_915e3 0 0 D cy B0 [.ref (a), .int (iI (z))] (f) (fun r g_ => r = some (va_rf (g z.toNat)) ∧ g_ = f) 0 0 := by
  refine g_start (cc := cJx4a65c_elementData_915e3) (maxL := 2) (ret := (some (.object "java/lang/Object"))) (by decide) rfl (Nat.le_of_ble_eq_true rfl) ?_
  intro p_ e_ s_ m_ be_ me_ co_ ls H locs K hr hlk hnm hK hW hl
  obtain ⟨hx, hb, hml, hown, hts⟩ := id K
  have hl : lv_has ls 2 [(0, .ref (a)), (1, .int (iI (z)))] := hl
  refine lv_aload_n hx hb dJx4a65c_elementData_915e3_0 rfl (lv_at hl 0 rfl) ?_
  refine g_get (ref := RJx4a65c) (T := TJx4a65c) (N := 3) (ci := 0) hx hb hts wsC_Jx4a65c hown hK hW i hi rfl 1 (by decide) (hts _ lC_Jx4a65c_9) (fun x h => h) rfl dJx4a65c_elementData_915e3_1 ?_
  refine lv_iload_n hx hb dJx4a65c_elementData_915e3_4 rfl (lv_at hl 1 rfl) ?_
  refine g_aldq hx hb hK hW j hj (iI_in (by omega) (by omega) (by omega)) dJx4a65c_elementData_915e3_5 ?_
  rw [iI_clamp ⟨by omega, by omega⟩]
  exact g_aret hx hb hr (va_rf_or _) hW ⟨rfl, rfl⟩ dJx4a65c_elementData_915e3_6 hlk
set_option maxHeartbeats 4000000 in
set_option maxRecDepth 100000 in
theorem c_Jx4a65c_get_915e3 {l : Launch} {D : va_G} {cy : Nat → ClassId} {B0 : Nat} {f : gF} {i j a b n : Nat} {mc sz : Int} {g : Nat → Option Nat} (z : Int) (hi : f i = some (a, .inr (0, [.int (iI mc), .ref b, .int (iI sz)]))) (hj : f j = some (b, cO cy n g)) (hn : n ≤ 100000) (hs : 0 ≤ sz ∧ sz ≤ n) (hz : 0 ≤ z ∧ z < sz) : gM l yJx4a65c_get_915e3 vJx4a65c_get_915e3 3 67 D cy B0 [.ref (a), .int (iI (z))] (f) (fun r g_ => r = some (va_rf (g z.toNat)) ∧ g_ = f) 0 0 := by
  refine g_start (cc := cJx4a65c_get_915e3) (maxL := 2) (ret := (some (.object "java/lang/Object"))) (by decide) rfl (Nat.le_of_ble_eq_true rfl) ?_
  intro p_ e_ s_ m_ be_ me_ co_ ls H locs K hr hlk hnm hK hW hl
  obtain ⟨hx, hb, hml, hown, hts⟩ := id K
  have hl : lv_has ls 2 [(0, .ref (a)), (1, .int (iI (z)))] := hl
  refine lv_iload_n hx hb dJx4a65c_get_915e3_0 rfl (lv_at hl 1 rfl) ?_
  refine lv_aload_n hx hb dJx4a65c_get_915e3_1 rfl (lv_at hl 0 rfl) ?_
  refine g_get (ref := RJx4a65c) (T := TJx4a65c) (N := 3) (ci := 0) hx hb hts wsC_Jx4a65c hown hK hW i hi rfl 2 (by decide) (hts _ lC_Jx4a65c_48) (fun x h => h) rfl dJx4a65c_get_915e3_2 ?_
  refine g_callS (As := [.int (iI (z)), .int (iI (sz))]) (rest := []) K (c_J15_checkIndex_7cf53 z sz ⟨by omega, by omega⟩ (by omega)) (va_cwS 2 hts gC_Jx4a65c_118 rfl rfl rfl (by decide +kernel) ⟨Nat.le_of_ble_eq_true rfl, Nat.le_of_ble_eq_true rfl⟩) hK hW rfl hl.1 rfl (Nat.le_of_ble_eq_true rfl) dJx4a65c_get_915e3_5 ⟨Nat.le_refl _, Nat.le_refl _⟩ (fun v_ f_ H locs hp hW => ?_)
  obtain ⟨hpv, hpe⟩ := hp
  rw [hpe] at hW
  subst hpv
  refine lv_pop hx hb dJx4a65c_get_915e3_8 rfl ?_
  refine lv_aload_n hx hb dJx4a65c_get_915e3_9 rfl (lv_at hl 0 rfl) ?_
  refine lv_iload_n hx hb dJx4a65c_get_915e3_10 rfl (lv_at hl 1 rfl) ?_
  refine g_callV (i := i) (As := [.int (iI (z))]) (rest := []) K (c_Jx4a65c_elementData_915e3 z hi hj hn hs hz) (cwV 1 hts gC_Jx4a65c_123 rfl rfl rfl (by decide +kernel) ⟨Nat.le_of_ble_eq_true rfl, Nat.le_of_ble_eq_true rfl⟩) hK hW hi rfl rfl hl.1 rfl (Nat.le_of_ble_eq_true rfl) dJx4a65c_get_915e3_11 ⟨Nat.le_refl _, Nat.le_refl _⟩ (fun v_ f_ H locs hp hW => ?_)
  obtain ⟨hpv, hpe⟩ := hp
  rw [hpe] at hW
  subst hpv
  exact g_aret hx hb hr (va_rf_or _) hW ⟨rfl, rfl⟩ dJx4a65c_get_915e3_14 hlk
