set_option maxHeartbeats 4000000 in
set_option maxRecDepth 100000 in
theorem c_Jx4a65c_add_9ea2d_r {l : Launch} {D : va_G} {cy : Nat → ClassId} {B0 : Nat} {f : gF} {i j a b n : Nat} {mc sz : Int} {g : Nat → Option Nat}  (hi : f i = some (a, .inr (0, [.int (iI mc), .ref b, .int (iI sz)]))) (hj : f j = some (b, cO cy n g)) (hij : i ≠ j) (hn : n ≤ 60000) (hs : 0 ≤ sz ∧ sz < n) {ci N : Nat} {C : String} {T : u_T} (hc : vwCl[ci]? = some (C, T, N)) (hcan : (.castable C "java/lang/Object") ∈ gNs) {k v : Nat} {vs : List Value} (hv : f k = some (v, .inr (ci, vs))) (hki : k ≠ i) (hkj : k ≠ j) : gM l yJx4a65c_add_9ea2d vJx4a65c_add_9ea2d 6 135 D cy B0 [.ref (a), .ref (v)] (f) (fun r g_ => r = some (.int (iI 1)) ∧ g_ = gup (gup f j b (cO cy n (va_up g (sz).toNat (some v)))) i a (.inr (0, [.int (iI (mc + 1)), .ref b, .int (iI (sz + 1))]))) 0 0 := by
  refine g_start (cc := cJx4a65c_add_9ea2d) (maxL := 2) (ret := (some .boolean)) (by decide) rfl (Nat.le_of_ble_eq_true rfl) ?_
  intro p_ e_ s_ m_ be_ me_ co_ ls H locs K hr hlk hnm hK hW hl
  obtain ⟨hx, hb, hml, hown, hts⟩ := id K
  have hl : lv_has ls 2 [(0, .ref (a)), (1, .ref (v))] := hl
  refine lv_aload_n hx hb dJx4a65c_add_9ea2d_0 rfl (lv_at hl 0 rfl) ?_
  refine lv_dup hx hb dJx4a65c_add_9ea2d_1 rfl ?_
  refine g_get (ref := RJx4a65c) (T := TJx4a65c) (N := 3) (ci := 0) hx hb hts wsC_Jx4a65c hown hK hW i hi rfl 0 (by decide) (hts _ lC_Jx4a65c_63) (fun x h => u_same (hts _ (wsC_sub _ wsCw_109)) x h) rfl dJx4a65c_add_9ea2d_2 ?_
  refine xi_iconst hx hb dJx4a65c_add_9ea2d_5 ?_
  refine xi_iadd hx hb dJx4a65c_add_9ea2d_6 ?_
  refine g_put (ref := RJx4a65c) (T := TJx4a65c) (N := 3) (ci := 0) (ty := .int) hx hb hts wsC_Jx4a65c tyJx4a65c tyJx4a65c_ok nmJx4a65c hown hK hW i hi rfl 0 (by decide) (hts _ lC_Jx4a65c_63) (fun x h => u_same (hts _ (wsC_sub _ wsCw_109)) x h) rfl (by decide +kernel) rfl rfl (show 0 < 3 by decide) dJx4a65c_add_9ea2d_7 (fun H locs hW => ?_)
  refine lv_aload_n hx hb dJx4a65c_add_9ea2d_10 rfl (lv_at hl 0 rfl) ?_
  refine lv_aload_n hx hb dJx4a65c_add_9ea2d_11 rfl (lv_at hl 1 rfl) ?_
  refine lv_aload_n hx hb dJx4a65c_add_9ea2d_12 rfl (lv_at hl 0 rfl) ?_
  refine g_get (ref := RJx4a65c) (T := TJx4a65c) (N := 3) (ci := 0) hx hb hts wsC_Jx4a65c hown hK hW i (gup_s _ _ _ _) rfl 1 (by decide) (hts _ lC_Jx4a65c_9) (fun x h => h) rfl dJx4a65c_add_9ea2d_13 ?_
  refine lv_aload_n hx hb dJx4a65c_add_9ea2d_16 rfl (lv_at hl 0 rfl) ?_
  refine g_get (ref := RJx4a65c) (T := TJx4a65c) (N := 3) (ci := 0) hx hb hts wsC_Jx4a65c hown hK hW i (gup_s _ _ _ _) rfl 2 (by decide) (hts _ lC_Jx4a65c_48) (fun x h => h) rfl dJx4a65c_add_9ea2d_17 ?_
  refine g_callV (i := i) (As := [.ref (v), .ref (b), .int (iI (sz))]) (rest := []) K (c_Jx4a65c_add_72be8_r (mc := mc + 1) (gup_s _ _ _ _) (by rw [gup_n _ _ _ (Ne.symm hij)]; exact hj) hij hn hs hc hcan (by rw [gup_n _ _ _ hki]; exact hv) hki hkj) (cwV 3 hts gC_Jx4a65c_131 rfl rfl rfl (by decide +kernel) ⟨Nat.le_of_ble_eq_true rfl, Nat.le_of_ble_eq_true rfl⟩) hK hW (gup_s _ _ _ _) rfl rfl hl.1 rfl (Nat.le_of_ble_eq_true rfl) dJx4a65c_add_9ea2d_20 ⟨Nat.le_refl _, Nat.le_refl _⟩ (fun v_ f_ H locs hp hW => ?_)
  obtain ⟨hpv, hpe⟩ := hp
  rw [gup_ij f hij] at hpe
  rw [hpe] at hW
  subst hpv
  refine xi_iconst hx hb dJx4a65c_add_9ea2d_23 ?_
  exact g_zret hx hb hr (Or.inr rfl) hW ⟨rfl, rfl⟩ dJx4a65c_add_9ea2d_24 hlk
set_option maxHeartbeats 4000000 in
set_option maxRecDepth 100000 in
theorem c_Jx4a65c_add_9ea2d_f {l : Launch} {D : va_G} {cy : Nat → ClassId} {B0 : Nat} {f : gF} {i j j2 a b n : Nat} {mc : Int} {g : Nat → Option Nat}  (hi : f i = some (a, .inr (0, [.int (iI mc), .ref b, .int (iI (n : Int))]))) (hj : f j = some (b, cO cy n g)) (hij : i ≠ j) (hn10 : 10 ≤ n) (hn : n ≤ 60000) (h2 : f j2 = none) (hjj : j ≠ j2) {ci N : Nat} {C : String} {T : u_T} (hc : vwCl[ci]? = some (C, T, N)) (hcan : (.castable C "java/lang/Object") ∈ gNs) (hel : ∀ (x y : Nat), g x = some y → ∃ (k : Nat) (vs : List Value), f k = some (y, .inr (ci, vs)) ∧ k ≠ i) (hi2 : j2 ≠ i) {k v : Nat} {vs : List Value} (hv : f k = some (v, .inr (ci, vs))) (hki : k ≠ i) (hkj : k ≠ j) : gM l yJx4a65c_add_9ea2d vJx4a65c_add_9ea2d 6 135 D cy B0 [.ref (a), .ref (v)] (f) (fun r g_ => ∃ q : Nat, r = some (.int (iI 1)) ∧ g_ = gup (gup f j q (cO cy (n + n / 2) (va_up (va_cpy g (fun _ => none) 0 0 n) ((n : Int)).toNat (some v)))) i a (.inr (0, [.int (iI (mc + 1)), .ref q, .int (iI ((n : Int) + 1))]))) 1 (n + n / 2) := by
  refine g_start (cc := cJx4a65c_add_9ea2d) (maxL := 2) (ret := (some .boolean)) (by decide) rfl (Nat.le_of_ble_eq_true rfl) ?_
  intro p_ e_ s_ m_ be_ me_ co_ ls H locs K hr hlk hnm hK hW hl
  obtain ⟨hx, hb, hml, hown, hts⟩ := id K
  have hl : lv_has ls 2 [(0, .ref (a)), (1, .ref (v))] := hl
  refine lv_aload_n hx hb dJx4a65c_add_9ea2d_0 rfl (lv_at hl 0 rfl) ?_
  refine lv_dup hx hb dJx4a65c_add_9ea2d_1 rfl ?_
  refine g_get (ref := RJx4a65c) (T := TJx4a65c) (N := 3) (ci := 0) hx hb hts wsC_Jx4a65c hown hK hW i hi rfl 0 (by decide) (hts _ lC_Jx4a65c_63) (fun x h => u_same (hts _ (wsC_sub _ wsCw_109)) x h) rfl dJx4a65c_add_9ea2d_2 ?_
  refine xi_iconst hx hb dJx4a65c_add_9ea2d_5 ?_
  refine xi_iadd hx hb dJx4a65c_add_9ea2d_6 ?_
  refine g_put (ref := RJx4a65c) (T := TJx4a65c) (N := 3) (ci := 0) (ty := .int) hx hb hts wsC_Jx4a65c tyJx4a65c tyJx4a65c_ok nmJx4a65c hown hK hW i hi rfl 0 (by decide) (hts _ lC_Jx4a65c_63) (fun x h => u_same (hts _ (wsC_sub _ wsCw_109)) x h) rfl (by decide +kernel) rfl rfl (show 0 < 3 by decide) dJx4a65c_add_9ea2d_7 (fun H locs hW => ?_)
  refine lv_aload_n hx hb dJx4a65c_add_9ea2d_10 rfl (lv_at hl 0 rfl) ?_
  refine lv_aload_n hx hb dJx4a65c_add_9ea2d_11 rfl (lv_at hl 1 rfl) ?_
  refine lv_aload_n hx hb dJx4a65c_add_9ea2d_12 rfl (lv_at hl 0 rfl) ?_
  refine g_get (ref := RJx4a65c) (T := TJx4a65c) (N := 3) (ci := 0) hx hb hts wsC_Jx4a65c hown hK hW i (gup_s _ _ _ _) rfl 1 (by decide) (hts _ lC_Jx4a65c_9) (fun x h => h) rfl dJx4a65c_add_9ea2d_13 ?_
  refine lv_aload_n hx hb dJx4a65c_add_9ea2d_16 rfl (lv_at hl 0 rfl) ?_
  refine g_get (ref := RJx4a65c) (T := TJx4a65c) (N := 3) (ci := 0) hx hb hts wsC_Jx4a65c hown hK hW i (gup_s _ _ _ _) rfl 2 (by decide) (hts _ lC_Jx4a65c_48) (fun x h => h) rfl dJx4a65c_add_9ea2d_17 ?_
  refine g_callV (i := i) (As := [.ref (v), .ref (b), .int (iI ((n : Int)))]) (rest := []) K (c_Jx4a65c_add_72be8_f (mc := mc + 1) (j2 := j2) (g := g) (gup_s _ _ _ _) (by rw [gup_n _ _ _ (Ne.symm hij)]; exact hj) hij hn10 hn (by rw [gup_n _ _ _ hi2]; exact h2) hjj hc hcan (fun x y hxy => by obtain ⟨k, vs, hk, hk2⟩ := hel x y hxy; exact ⟨k, vs, by rw [gup_n _ _ _ hk2]; exact hk⟩) (by rw [gup_n _ _ _ hki]; exact hv) hki hkj) (cwV 3 hts gC_Jx4a65c_131 rfl rfl rfl (by decide +kernel) ⟨Nat.le_of_ble_eq_true rfl, Nat.le_of_ble_eq_true rfl⟩) hK hW (gup_s _ _ _ _) rfl rfl hl.1 rfl (Nat.le_of_ble_eq_true rfl) dJx4a65c_add_9ea2d_20 ⟨Nat.le_refl _, by dsimp only; omega⟩ (fun v_ f_ H locs hp hW => ?_)
  obtain ⟨q, hpv, hpe⟩ := hp
  rw [gup_ij f hij] at hpe
  rw [hpe] at hW
  subst hpv
  refine xi_iconst hx hb dJx4a65c_add_9ea2d_23 ?_
  exact W.widen (by first | omega | (dsimp only; omega)) (by first | omega | (dsimp only; omega)) (g_zret hx hb hr (Or.inr rfl) hW ⟨q, rfl, rfl⟩ dJx4a65c_add_9ea2d_24 hlk)
set_option maxHeartbeats 4000000 in
set_option maxRecDepth 100000 in
theorem c_Jx4a65c_add_9ea2d_0 {l : Launch} {D : va_G} {cy : Nat → ClassId} {B0 : Nat} {f : gF} {i j a : Nat} {mc : Int}  (hi : f i = some (a, .inr (0, [.int (iI mc), .ref (D.1 21), .int (iI 0)]))) (hij : i ≠ j) {ci N : Nat} {C : String} {T : u_T} (hc : vwCl[ci]? = some (C, T, N)) (hcan : (.castable C "java/lang/Object") ∈ gNs) {k v : Nat} {vs : List Value} (hv : f k = some (v, .inr (ci, vs))) (hki : k ≠ i) (hkj : k ≠ j) : gM l yJx4a65c_add_9ea2d vJx4a65c_add_9ea2d 6 135 D cy B0 [.ref (a), .ref (v)] (f) (fun r g_ => ∃ q : Nat, r = some (.int (iI 1)) ∧ g_ = gup (gup f j q (cO cy 10 (va_up (fun _ => none) ((0 : Int)).toNat (some v)))) i a (.inr (0, [.int (iI (mc + 1)), .ref q, .int (iI ((0 : Int) + 1))]))) 1 10 := by
  refine g_start (cc := cJx4a65c_add_9ea2d) (maxL := 2) (ret := (some .boolean)) (by decide) rfl (Nat.le_of_ble_eq_true rfl) ?_
  intro p_ e_ s_ m_ be_ me_ co_ ls H locs K hr hlk hnm hK hW hl
  obtain ⟨hx, hb, hml, hown, hts⟩ := id K
  have hl : lv_has ls 2 [(0, .ref (a)), (1, .ref (v))] := hl
  refine lv_aload_n hx hb dJx4a65c_add_9ea2d_0 rfl (lv_at hl 0 rfl) ?_
  refine lv_dup hx hb dJx4a65c_add_9ea2d_1 rfl ?_
  refine g_get (ref := RJx4a65c) (T := TJx4a65c) (N := 3) (ci := 0) hx hb hts wsC_Jx4a65c hown hK hW i hi rfl 0 (by decide) (hts _ lC_Jx4a65c_63) (fun x h => u_same (hts _ (wsC_sub _ wsCw_109)) x h) rfl dJx4a65c_add_9ea2d_2 ?_
  refine xi_iconst hx hb dJx4a65c_add_9ea2d_5 ?_
  refine xi_iadd hx hb dJx4a65c_add_9ea2d_6 ?_
  refine g_put (ref := RJx4a65c) (T := TJx4a65c) (N := 3) (ci := 0) (ty := .int) hx hb hts wsC_Jx4a65c tyJx4a65c tyJx4a65c_ok nmJx4a65c hown hK hW i hi rfl 0 (by decide) (hts _ lC_Jx4a65c_63) (fun x h => u_same (hts _ (wsC_sub _ wsCw_109)) x h) rfl (by decide +kernel) rfl rfl (show 0 < 3 by decide) dJx4a65c_add_9ea2d_7 (fun H locs hW => ?_)
  refine lv_aload_n hx hb dJx4a65c_add_9ea2d_10 rfl (lv_at hl 0 rfl) ?_
  refine lv_aload_n hx hb dJx4a65c_add_9ea2d_11 rfl (lv_at hl 1 rfl) ?_
  refine lv_aload_n hx hb dJx4a65c_add_9ea2d_12 rfl (lv_at hl 0 rfl) ?_
  refine g_get (ref := RJx4a65c) (T := TJx4a65c) (N := 3) (ci := 0) hx hb hts wsC_Jx4a65c hown hK hW i (gup_s _ _ _ _) rfl 1 (by decide) (hts _ lC_Jx4a65c_9) (fun x h => h) rfl dJx4a65c_add_9ea2d_13 ?_
  refine lv_aload_n hx hb dJx4a65c_add_9ea2d_16 rfl (lv_at hl 0 rfl) ?_
  refine g_get (ref := RJx4a65c) (T := TJx4a65c) (N := 3) (ci := 0) hx hb hts wsC_Jx4a65c hown hK hW i (gup_s _ _ _ _) rfl 2 (by decide) (hts _ lC_Jx4a65c_48) (fun x h => h) rfl dJx4a65c_add_9ea2d_17 ?_
  refine g_callV (i := i) (As := [.ref (v), .ref (D.1 21), .int (iI ((0 : Int)))]) (rest := []) K (c_Jx4a65c_add_72be8_0 (mc := mc + 1) (j := j) (gup_s _ _ _ _) hij hc hcan (by rw [gup_n _ _ _ hki]; exact hv) hki hkj) (cwV 3 hts gC_Jx4a65c_131 rfl rfl rfl (by decide +kernel) ⟨Nat.le_of_ble_eq_true rfl, Nat.le_of_ble_eq_true rfl⟩) hK hW (gup_s _ _ _ _) rfl rfl hl.1 rfl (Nat.le_of_ble_eq_true rfl) dJx4a65c_add_9ea2d_20 ⟨Nat.le_refl _, by dsimp only; omega⟩ (fun v_ f_ H locs hp hW => ?_)
  obtain ⟨q, hpv, hpe⟩ := hp
  rw [gup_ij f hij] at hpe
  rw [hpe] at hW
  subst hpv
  refine xi_iconst hx hb dJx4a65c_add_9ea2d_23 ?_
  exact W.widen (by first | omega | (dsimp only; omega)) (by first | omega | (dsimp only; omega)) (g_zret hx hb hr (Or.inr rfl) hW ⟨q, rfl, rfl⟩ dJx4a65c_add_9ea2d_24 hlk)
