set_option maxHeartbeats 4000000 in
set_option maxRecDepth 100000 in
theorem c_Jx4a65c_grow_d5877_f {l : Launch} {D : va_G} {cy : Nat → ClassId} {B0 : Nat} {f : gF} {i j j2 a b n : Nat} {mc : Int} {g : Nat → Option Nat}  (hi : f i = some (a, .inr (0, [.int (iI mc), .ref b, .int (iI (n : Int))]))) (hj : f j = some (b, cO cy n g)) (hij : i ≠ j) (hn10 : 10 ≤ n) (hn : n ≤ 60000) (h2 : f j2 = none) (hjj : j ≠ j2) {ci N : Nat} {C : String} {T : u_T} (hc : vwCl[ci]? = some (C, T, N)) (hcan : (.castable C "java/lang/Object") ∈ gNs) (hel : ∀ (x y : Nat), g x = some y → ∃ (k : Nat) (vs : List Value), f k = some (y, .inr (ci, vs))) : gM l yJx4a65c_grow_d5877 vJx4a65c_grow_d5877 4 92 D cy B0 [.ref (a)] (f) (fun r g_ => ∃ q : Nat, r = some (.ref q) ∧ g_ = gup (gup f j q (cO cy (n + n / 2) (va_cpy g (fun _ => none) 0 0 n))) i a (.inr (0, [.int (iI mc), .ref q, .int (iI (n : Int))]))) 1 (n + n / 2) := by
  refine g_start (cc := cJx4a65c_grow_d5877) (maxL := 1) (ret := (some (.array (.object "java/lang/Object")))) (by decide) rfl (Nat.le_of_ble_eq_true rfl) ?_
  intro p_ e_ s_ m_ be_ me_ co_ ls H locs K hr hlk hnm hK hW hl
  obtain ⟨hx, hb, hml, hown, hts⟩ := id K
  have hl : lv_has ls 1 [(0, .ref (a))] := hl
  refine lv_aload_n hx hb dJx4a65c_grow_d5877_0 rfl (lv_at hl 0 rfl) ?_
  refine lv_aload_n hx hb dJx4a65c_grow_d5877_1 rfl (lv_at hl 0 rfl) ?_
  refine g_get (ref := RJx4a65c) (T := TJx4a65c) (N := 3) (ci := 0) hx hb hts wsC_Jx4a65c hown hK hW i hi rfl 2 (by decide) (hts _ lC_Jx4a65c_48) (fun x h => h) rfl dJx4a65c_grow_d5877_2 ?_
  refine xi_iconst hx hb dJx4a65c_grow_d5877_5 ?_
  refine xi_iadd hx hb dJx4a65c_grow_d5877_6 ?_
  refine g_callV (i := i) (As := [.int (iI ((n : Int) + 1))]) (rest := []) K (c_Jx4a65c_grow_92f84_f hi hj hij hn10 hn h2 hjj hc hcan hel) (cwV 1 hts gC_Jx4a65c_69 rfl rfl rfl (by decide +kernel) ⟨Nat.le_of_ble_eq_true rfl, Nat.le_of_ble_eq_true rfl⟩) hK hW hi rfl rfl hl.1 rfl (Nat.le_of_ble_eq_true rfl) dJx4a65c_grow_d5877_7 ⟨Nat.le_refl _, by dsimp only; omega⟩ (fun v_ f_ H locs hp hW => ?_)
  obtain ⟨q, hpv, hpe⟩ := hp
  rw [hpe] at hW
  subst hpv
  exact W.widen (by first | omega | (dsimp only; omega)) (by first | omega | (dsimp only; omega)) (g_aretA hx hb hr (Or.inr ⟨_, rfl⟩) hW ⟨q, rfl, rfl⟩ dJx4a65c_grow_d5877_10 hlk)
set_option maxHeartbeats 4000000 in
set_option maxRecDepth 100000 in
theorem c_Jx4a65c_grow_d5877_0 {l : Launch} {D : va_G} {cy : Nat → ClassId} {B0 : Nat} {f : gF} {i j a : Nat} {mc : Int}  (hi : f i = some (a, .inr (0, [.int (iI mc), .ref (D.1 21), .int (iI 0)]))) (hij : i ≠ j) : gM l yJx4a65c_grow_d5877 vJx4a65c_grow_d5877 4 92 D cy B0 [.ref (a)] (f) (fun r g_ => ∃ q : Nat, r = some (.ref q) ∧ g_ = gup (gup f j q (cO cy 10 (fun _ => none))) i a (.inr (0, [.int (iI mc), .ref q, .int (iI 0)]))) 1 10 := by
  refine g_start (cc := cJx4a65c_grow_d5877) (maxL := 1) (ret := (some (.array (.object "java/lang/Object")))) (by decide) rfl (Nat.le_of_ble_eq_true rfl) ?_
  intro p_ e_ s_ m_ be_ me_ co_ ls H locs K hr hlk hnm hK hW hl
  obtain ⟨hx, hb, hml, hown, hts⟩ := id K
  have hl : lv_has ls 1 [(0, .ref (a))] := hl
  refine lv_aload_n hx hb dJx4a65c_grow_d5877_0 rfl (lv_at hl 0 rfl) ?_
  refine lv_aload_n hx hb dJx4a65c_grow_d5877_1 rfl (lv_at hl 0 rfl) ?_
  refine g_get (ref := RJx4a65c) (T := TJx4a65c) (N := 3) (ci := 0) hx hb hts wsC_Jx4a65c hown hK hW i hi rfl 2 (by decide) (hts _ lC_Jx4a65c_48) (fun x h => h) rfl dJx4a65c_grow_d5877_2 ?_
  refine xi_iconst hx hb dJx4a65c_grow_d5877_5 ?_
  refine xi_iadd hx hb dJx4a65c_grow_d5877_6 ?_
  refine g_callV (i := i) (As := [.int (iI (0 + 1))]) (rest := []) K (c_Jx4a65c_grow_92f84_0 (j := j) hi hij) (cwV 1 hts gC_Jx4a65c_69 rfl rfl rfl (by decide +kernel) ⟨Nat.le_of_ble_eq_true rfl, Nat.le_of_ble_eq_true rfl⟩) hK hW hi rfl rfl hl.1 rfl (Nat.le_of_ble_eq_true rfl) dJx4a65c_grow_d5877_7 ⟨Nat.le_refl _, by dsimp only; omega⟩ (fun v_ f_ H locs hp hW => ?_)
  obtain ⟨q, hpv, hpe⟩ := hp
  rw [hpe] at hW
  subst hpv
  exact W.widen (by first | omega | (dsimp only; omega)) (by first | omega | (dsimp only; omega)) (g_aretA hx hb hr (Or.inr ⟨_, rfl⟩) hW ⟨q, rfl, rfl⟩ dJx4a65c_grow_d5877_10 hlk)
set_option maxHeartbeats 4000000 in
set_option maxRecDepth 100000 in
theorem c_Jx4a65c_add_72be8_r {l : Launch} {D : va_G} {cy : Nat → ClassId} {B0 : Nat} {f : gF} {i j a b n : Nat} {mc sz : Int} {g : Nat → Option Nat}  (hi : f i = some (a, .inr (0, [.int (iI mc), .ref b, .int (iI sz)]))) (hj : f j = some (b, cO cy n g)) (hij : i ≠ j) (hn : n ≤ 60000) (hs : 0 ≤ sz ∧ sz < n) {ci N : Nat} {C : String} {T : u_T} (hc : vwCl[ci]? = some (C, T, N)) (hcan : (.castable C "java/lang/Object") ∈ gNs) {k v : Nat} {vs : List Value} (hv : f k = some (v, .inr (ci, vs))) (hki : k ≠ i) (hkj : k ≠ j) : gM l yJx4a65c_add_72be8 vJx4a65c_add_72be8 5 112 D cy B0 [.ref (a), .ref (v), .ref (b), .int (iI (sz))] (f) (fun r g_ => r = none ∧ g_ = gup (gup f j b (cO cy n (va_up g (sz).toNat (some v)))) i a (.inr (0, [.int (iI mc), .ref b, .int (iI (sz + 1))]))) 0 0 := by
  refine g_start (cc := cJx4a65c_add_72be8) (maxL := 4) (ret := none) (by decide) rfl (Nat.le_of_ble_eq_true rfl) ?_
  intro p_ e_ s_ m_ be_ me_ co_ ls H locs K hr hlk hnm hK hW hl
  obtain ⟨hx, hb, hml, hown, hts⟩ := id K
  have hl : lv_has ls 4 [(0, .ref (a)), (1, .ref (v)), (2, .ref (b)), (3, .int (iI (sz)))] := hl
  refine lv_iload_n hx hb dJx4a65c_add_72be8_0 rfl (lv_at hl 3 rfl) ?_
  refine lv_aload_n hx hb dJx4a65c_add_72be8_1 rfl (lv_at hl 2 rfl) ?_
  refine g_alen hx hb hK hW j hj (ci := 3) (ty := .object "java/lang/Object") rfl (v := iI (n : Int)) (iI_nI n) dJx4a65c_add_72be8_2 ?_
  refine xi_icmp_ne (tgt := 11) hx hb ⟨by omega, by omega⟩ ⟨by omega, by omega⟩ dJx4a65c_add_72be8_3 (by decide) (fun c_1 => ?_) (fun c_1 => ?_)
  · refine lv_aload_n hx hb dJx4a65c_add_72be8_11 rfl (lv_at hl 2 rfl) ?_
    refine lv_iload_n hx hb dJx4a65c_add_72be8_12 rfl (lv_at hl 3 rfl) ?_
    refine lv_aload_n hx hb dJx4a65c_add_72be8_13 rfl (lv_at hl 1 rfl) ?_
    refine g_astq hx hb hK hW j k hj hv hc (hK.2.1 _ hcan) (iI_in (by omega) (by omega) (by omega)) dJx4a65c_add_72be8_14 (fun H locs hW => ?_)
    rw [iI_clamp ⟨by omega, by omega⟩] at hW
    refine lv_aload_n hx hb dJx4a65c_add_72be8_15 rfl (lv_at hl 0 rfl) ?_
    refine lv_iload_n hx hb dJx4a65c_add_72be8_16 rfl (lv_at hl 3 rfl) ?_
    refine xi_iconst hx hb dJx4a65c_add_72be8_17 ?_
    refine xi_iadd hx hb dJx4a65c_add_72be8_18 ?_
    refine g_put (ref := RJx4a65c) (T := TJx4a65c) (N := 3) (ci := 0) (ty := .int) hx hb hts wsC_Jx4a65c tyJx4a65c tyJx4a65c_ok nmJx4a65c hown hK hW i (cR_i hi hij) rfl 2 (by decide) (hts _ lC_Jx4a65c_48) (fun x h => h) rfl (by decide +kernel) rfl rfl (show 2 < 3 by decide) dJx4a65c_add_72be8_19 (fun H locs hW => ?_)
    exact g_vret hx hb hr hW ⟨rfl, rfl⟩ dJx4a65c_add_72be8_22 hlk
  · omega
set_option maxHeartbeats 4000000 in
set_option maxRecDepth 100000 in
theorem c_Jx4a65c_add_72be8_f {l : Launch} {D : va_G} {cy : Nat → ClassId} {B0 : Nat} {f : gF} {i j j2 a b n : Nat} {mc : Int} {g : Nat → Option Nat}  (hi : f i = some (a, .inr (0, [.int (iI mc), .ref b, .int (iI (n : Int))]))) (hj : f j = some (b, cO cy n g)) (hij : i ≠ j) (hn10 : 10 ≤ n) (hn : n ≤ 60000) (h2 : f j2 = none) (hjj : j ≠ j2) {ci N : Nat} {C : String} {T : u_T} (hc : vwCl[ci]? = some (C, T, N)) (hcan : (.castable C "java/lang/Object") ∈ gNs) (hel : ∀ (x y : Nat), g x = some y → ∃ (k : Nat) (vs : List Value), f k = some (y, .inr (ci, vs))) {k v : Nat} {vs : List Value} (hv : f k = some (v, .inr (ci, vs))) (hki : k ≠ i) (hkj : k ≠ j) : gM l yJx4a65c_add_72be8 vJx4a65c_add_72be8 5 112 D cy B0 [.ref (a), .ref (v), .ref (b), .int (iI ((n : Int)))] (f) (fun r g_ => ∃ q : Nat, r = none ∧ g_ = gup (gup f j q (cO cy (n + n / 2) (va_up (va_cpy g (fun _ => none) 0 0 n) ((n : Int)).toNat (some v)))) i a (.inr (0, [.int (iI mc), .ref q, .int (iI ((n : Int) + 1))]))) 1 (n + n / 2) := by
  refine g_start (cc := cJx4a65c_add_72be8) (maxL := 4) (ret := none) (by decide) rfl (Nat.le_of_ble_eq_true rfl) ?_
  intro p_ e_ s_ m_ be_ me_ co_ ls H locs K hr hlk hnm hK hW hl
  obtain ⟨hx, hb, hml, hown, hts⟩ := id K
  have hl : lv_has ls 4 [(0, .ref (a)), (1, .ref (v)), (2, .ref (b)), (3, .int (iI ((n : Int))))] := hl
  refine lv_iload_n hx hb dJx4a65c_add_72be8_0 rfl (lv_at hl 3 rfl) ?_
  refine lv_aload_n hx hb dJx4a65c_add_72be8_1 rfl (lv_at hl 2 rfl) ?_
  refine g_alen hx hb hK hW j hj (ci := 3) (ty := .object "java/lang/Object") rfl (v := iI (n : Int)) (iI_nI n) dJx4a65c_add_72be8_2 ?_
  refine xi_icmp_ne (tgt := 11) hx hb ⟨by omega, by omega⟩ ⟨by omega, by omega⟩ dJx4a65c_add_72be8_3 (by decide) (fun c_1 => ?_) (fun c_1 => ?_)
  · exact absurd rfl c_1
  · refine lv_aload_n hx hb dJx4a65c_add_72be8_6 rfl (lv_at hl 0 rfl) ?_
    refine g_callV (i := i) (As := []) (rest := []) K (c_Jx4a65c_grow_d5877_f hi hj hij hn10 hn h2 hjj hc hcan hel) (cwV 0 hts gC_Jx4a65c_129 rfl rfl rfl (by decide +kernel) ⟨Nat.le_of_ble_eq_true rfl, Nat.le_of_ble_eq_true rfl⟩) hK hW hi rfl rfl hl.1 rfl (Nat.le_of_ble_eq_true rfl) dJx4a65c_add_72be8_7 ⟨Nat.le_refl _, by dsimp only; omega⟩ (fun v_ f_ H locs hp hW => ?_)
    obtain ⟨q, hpv, hpe⟩ := hp
    rw [hpe] at hW
    subst hpv
    refine lv_astore_n (lv' := [(2, .ref (q)), (0, .ref (a)), (1, .ref (v)), (3, .int (iI ((n : Int))))]) hx hb dJx4a65c_add_72be8_10 rfl hl (by decide) rfl (fun ls hl => ?_)
    refine lv_aload_n hx hb dJx4a65c_add_72be8_11 rfl (lv_at hl 0 rfl) ?_
    refine lv_iload_n hx hb dJx4a65c_add_72be8_12 rfl (lv_at hl 3 rfl) ?_
    refine lv_aload_n hx hb dJx4a65c_add_72be8_13 rfl (lv_at hl 2 rfl) ?_
    refine g_astq hx hb hK hW j k (by rw [gup_n _ _ _ (Ne.symm hij)]; exact gup_s _ _ _ _) (by rw [gup_n _ _ _ hki, gup_n _ _ _ hkj]; exact hv) hc (hK.2.1 _ hcan) (iI_in (by omega) (by omega) (by omega)) dJx4a65c_add_72be8_14 (fun H locs hW => ?_)
    rw [iI_clamp ⟨by omega, by omega⟩] at hW
    rw [gup_ji f hij] at hW
    refine lv_aload_n hx hb dJx4a65c_add_72be8_15 rfl (lv_at hl 1 rfl) ?_
    refine lv_iload_n hx hb dJx4a65c_add_72be8_16 rfl (lv_at hl 3 rfl) ?_
    refine xi_iconst hx hb dJx4a65c_add_72be8_17 ?_
    refine xi_iadd hx hb dJx4a65c_add_72be8_18 ?_
    refine g_put (ref := RJx4a65c) (T := TJx4a65c) (N := 3) (ci := 0) (ty := .int) hx hb hts wsC_Jx4a65c tyJx4a65c tyJx4a65c_ok nmJx4a65c hown hK hW i (gup_s _ _ _ _) rfl 2 (by decide) (hts _ lC_Jx4a65c_48) (fun x h => h) rfl (by decide +kernel) rfl rfl (show 2 < 3 by decide) dJx4a65c_add_72be8_19 (fun H locs hW => ?_)
    rw [gup_gup] at hW
    exact W.widen (by first | omega | (dsimp only; omega)) (by first | omega | (dsimp only; omega)) (g_vret hx hb hr hW ⟨q, rfl, rfl⟩ dJx4a65c_add_72be8_22 hlk)
set_option maxHeartbeats 4000000 in
set_option maxRecDepth 100000 in
theorem c_Jx4a65c_add_72be8_0 {l : Launch} {D : va_G} {cy : Nat → ClassId} {B0 : Nat} {f : gF} {i j a : Nat} {mc : Int}  (hi : f i = some (a, .inr (0, [.int (iI mc), .ref (D.1 21), .int (iI 0)]))) (hij : i ≠ j) {ci N : Nat} {C : String} {T : u_T} (hc : vwCl[ci]? = some (C, T, N)) (hcan : (.castable C "java/lang/Object") ∈ gNs) {k v : Nat} {vs : List Value} (hv : f k = some (v, .inr (ci, vs))) (hki : k ≠ i) (hkj : k ≠ j) : gM l yJx4a65c_add_72be8 vJx4a65c_add_72be8 5 112 D cy B0 [.ref (a), .ref (v), .ref (D.1 21), .int (iI ((0 : Int)))] (f) (fun r g_ => ∃ q : Nat, r = none ∧ g_ = gup (gup f j q (cO cy 10 (va_up (fun _ => none) ((0 : Int)).toNat (some v)))) i a (.inr (0, [.int (iI mc), .ref q, .int (iI ((0 : Int) + 1))]))) 1 10 := by
  refine g_start (cc := cJx4a65c_add_72be8) (maxL := 4) (ret := none) (by decide) rfl (Nat.le_of_ble_eq_true rfl) ?_
  intro p_ e_ s_ m_ be_ me_ co_ ls H locs K hr hlk hnm hK hW hl
  obtain ⟨hx, hb, hml, hown, hts⟩ := id K
  have hl : lv_has ls 4 [(0, .ref (a)), (1, .ref (v)), (2, .ref (D.1 21)), (3, .int (iI ((0 : Int))))] := hl
  refine lv_iload_n hx hb dJx4a65c_add_72be8_0 rfl (lv_at hl 3 rfl) ?_
  refine lv_aload_n hx hb dJx4a65c_add_72be8_1 rfl (lv_at hl 2 rfl) ?_
  refine g_alenE hx hb hK hW dJx4a65c_add_72be8_2 ?_
  refine xi_icmp_ne (tgt := 11) hx hb ⟨by omega, by omega⟩ ⟨by omega, by omega⟩ dJx4a65c_add_72be8_3 (by decide) (fun c_1 => ?_) (fun c_1 => ?_)
  · exact absurd rfl c_1
  · refine lv_aload_n hx hb dJx4a65c_add_72be8_6 rfl (lv_at hl 0 rfl) ?_
    refine g_callV (i := i) (As := []) (rest := []) K (c_Jx4a65c_grow_d5877_0 (j := j) hi hij) (cwV 0 hts gC_Jx4a65c_129 rfl rfl rfl (by decide +kernel) ⟨Nat.le_of_ble_eq_true rfl, Nat.le_of_ble_eq_true rfl⟩) hK hW hi rfl rfl hl.1 rfl (Nat.le_of_ble_eq_true rfl) dJx4a65c_add_72be8_7 ⟨Nat.le_refl _, by dsimp only; omega⟩ (fun v_ f_ H locs hp hW => ?_)
    obtain ⟨q, hpv, hpe⟩ := hp
    rw [hpe] at hW
    subst hpv
    refine lv_astore_n (lv' := [(2, .ref (q)), (0, .ref (a)), (1, .ref (v)), (3, .int (iI ((0 : Int))))]) hx hb dJx4a65c_add_72be8_10 rfl hl (by decide) rfl (fun ls hl => ?_)
    refine lv_aload_n hx hb dJx4a65c_add_72be8_11 rfl (lv_at hl 0 rfl) ?_
    refine lv_iload_n hx hb dJx4a65c_add_72be8_12 rfl (lv_at hl 3 rfl) ?_
    refine lv_aload_n hx hb dJx4a65c_add_72be8_13 rfl (lv_at hl 2 rfl) ?_
    refine g_astq hx hb hK hW j k (by rw [gup_n _ _ _ (Ne.symm hij)]; exact gup_s _ _ _ _) (by rw [gup_n _ _ _ hki, gup_n _ _ _ hkj]; exact hv) hc (hK.2.1 _ hcan) (iI_in (by omega) (by omega) (by omega)) dJx4a65c_add_72be8_14 (fun H locs hW => ?_)
    rw [iI_clamp ⟨by omega, by omega⟩] at hW
    rw [gup_ji f hij] at hW
    refine lv_aload_n hx hb dJx4a65c_add_72be8_15 rfl (lv_at hl 1 rfl) ?_
    refine lv_iload_n hx hb dJx4a65c_add_72be8_16 rfl (lv_at hl 3 rfl) ?_
    refine xi_iconst hx hb dJx4a65c_add_72be8_17 ?_
    refine xi_iadd hx hb dJx4a65c_add_72be8_18 ?_
    refine g_put (ref := RJx4a65c) (T := TJx4a65c) (N := 3) (ci := 0) (ty := .int) hx hb hts wsC_Jx4a65c tyJx4a65c tyJx4a65c_ok nmJx4a65c hown hK hW i (gup_s _ _ _ _) rfl 2 (by decide) (hts _ lC_Jx4a65c_48) (fun x h => h) rfl (by decide +kernel) rfl rfl (show 2 < 3 by decide) dJx4a65c_add_72be8_19 (fun H locs hW => ?_)
    rw [gup_gup] at hW
    exact W.widen (by first | omega | (dsimp only; omega)) (by first | omega | (dsimp only; omega)) (g_vret hx hb hr hW ⟨q, rfl, rfl⟩ dJx4a65c_add_72be8_22 hlk)
