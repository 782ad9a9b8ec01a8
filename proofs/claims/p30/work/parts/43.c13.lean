theorem iI_shr {n : Nat} (h : n ≤ 100000) : iI (n : Int) >>> (iI 1 &&& 31) = iI ((n / 2 : Nat) : Int) := by
  have k := pk_shrN (n := n) (by omega) ((1 : Int32) &&& 31) 1 (by decide)
  rw [Nat.pow_one] at k
  exact k
set_option maxHeartbeats 4000000 in
set_option maxRecDepth 100000 in
theorem c_J7_copyOf_1904c {l : Launch} {D : va_G} {cy : Nat → ClassId} {B0 : Nat} {f : gF} {i a n0 : Nat} {g : Nat → Option Nat} (j n1 : Nat) (hi : f i = some (a, cO cy n0 g)) (hij : i ≠ j) (hn : n0 ≤ n1) (hn1 : n1 ≤ 100000) {ci N : Nat} {C : String} {T : u_T} (hc : vwCl[ci]? = some (C, T, N)) (hcan : (.castable C "java/lang/Object") ∈ gNs) (hel : ∀ (x y : Nat), g x = some y → ∃ (k : Nat) (vs : List Value), f k = some (y, .inr (ci, vs)) ∧ k ≠ j) :
    gM l yJ7_copyOf_1904c vJ7_copyOf_1904c 2 47 D cy B0 [.ref a, .int (iI (n1 : Int))] f (fun r g_ => ∃ q : Nat, r = some (.ref q) ∧ g_ = gup f j q (cO cy n1 (va_cpy g (fun _ => none) 0 0 n0))) 1 n1 := by
  refine g_start (cc := cJ7_copyOf_1904c) (maxL := 2) (ret := some (.array (.object "java/lang/Object"))) (by decide) rfl (Nat.le_of_ble_eq_true rfl) ?_
  intro p_ e_ s_ m_ be_ me_ co_ ls H locs K hr hlk hnm hK hW hl
  obtain ⟨hx, hb, hml, hown, hts⟩ := id K
  have hl : lv_has ls 2 [(0, .ref a), (1, .int (iI (n1 : Int)))] := hl
  refine lv_aload_n hx hb dJ7_copyOf_1904c_0 rfl (lv_at hl 0 rfl) ?_
  refine lv_iload_n hx hb dJ7_copyOf_1904c_1 rfl (lv_at hl 1 rfl) ?_
  refine lv_aload_n hx hb dJ7_copyOf_1904c_2 rfl (lv_at hl 0 rfl) ?_
  refine va_getC hx hb (by rw [hml]; exact hl.1.symm) hown (hts _ (wsC_sub _ wsCw_84)) (hK.2.2.2.2.2.1.use) (hts _ (wsC_sub _ wsCw_85)) (hts _ (wsC_sub _ wsCw_86)) (hts _ (wsC_sub _ wsCw_87)) hK.2.2.2.2.1 ⟨vp_cell (cy 3) (n0, .inr (.inr (.inr (.inr g)))), (hW.1.1 i _ hi).1, rfl, va_nmO (hK.1.2 3 _ rfl).2 rfl⟩ (Nat.le_of_ble_eq_true rfl) (Nat.le_of_ble_eq_true rfl) dJ7_copyOf_1904c_3 ?_
  refine g_callS (As := [.ref a, .int (iI (n1 : Int)), .ref (D.1 24)]) (rest := []) K (c_J7_copyOf_6403c j n1 hi hij hn hn1 hc hcan hel) (va_cwS 3 hts gC_J7_300 rfl rfl rfl (by decide +kernel) ⟨Nat.le_of_ble_eq_true rfl, Nat.le_of_ble_eq_true rfl⟩) hK hW rfl hl.1 rfl (Nat.le_of_ble_eq_true rfl) dJ7_copyOf_1904c_6 ⟨Nat.le_refl _, by show 0 + n1 ≤ n1; omega⟩ (fun v_ f_ H locs hp hW => ?_)
  obtain ⟨q, hpv, hpe⟩ := hp
  rw [hpe] at hW
  subst hpv
  exact W.widen (Nat.le_refl _) (by show 0 + n1 ≤ n1; omega) (g_aretA hx hb hr (Or.inr ⟨_, rfl⟩) hW ⟨q, rfl, rfl⟩ dJ7_copyOf_1904c_9 hlk)
theorem gup_ji (f : gF) {i j : Nat} (h : i ≠ j) (a c q : Nat) (X X' Y : va_E) : gup (gup (gup f j q X) i a Y) j c X' = gup (gup f j c X') i a Y := by
  funext x
  by_cases h1 : x = j
  · subst h1
    rw [gup_s, gup_n _ _ _ (Ne.symm h), gup_s]
  · rw [gup_n _ _ _ h1]
    by_cases h2 : x = i
    · subst h2
      rw [gup_s, gup_s]
    · rw [gup_n _ _ _ h2, gup_n _ _ _ h2, gup_n _ _ _ h1, gup_n _ _ _ h1]
theorem gup_ij (f : gF) {i j : Nat} (h : i ≠ j) (a b c : Nat) (Y0 X Y : va_E) : gup (gup (gup f i c Y0) j b X) i a Y = gup (gup f j b X) i a Y := by
  funext x
  by_cases h2 : x = i
  · subst h2
    rw [gup_s, gup_s]
  · rw [gup_n _ _ _ h2, gup_n _ _ _ h2]
    by_cases h1 : x = j
    · subst h1
      rw [gup_s, gup_s]
    · rw [gup_n _ _ _ h1, gup_n _ _ _ h1, gup_n _ _ _ h2]
theorem gW_mv {D : va_G} {B0 : Nat} {H0 : State} {f : gF} {H : Heap} {locs : List Loc} {j j2 q : Nat} {X : va_E} (h : gW D B0 H0 (gup f j2 q X) H locs) (h0 : f j2 = none) (hne : j ≠ j2) : gW D B0 H0 (gup f j q X) H locs := by
  have key : ∀ (x : Nat) (r : Nat × va_E), gup f j q X x = some r → x ≠ j2 ∧ gup f j2 q X (if x = j then j2 else x) = some r := by
    intro x r hx
    by_cases e : x = j
    · subst e
      rw [gup_s] at hx
      rw [if_pos rfl, gup_s]
      exact ⟨hne, hx⟩
    · rw [gup_n _ _ _ e] at hx
      have h2 : x ≠ j2 := fun e2 => by rw [e2, h0] at hx; cases hx
      rw [if_neg e, gup_n _ _ _ h2]
      exact ⟨h2, hx⟩
  refine ⟨h.1.via (fun x => if x = j then j2 else x) (fun x r hx => (key x r hx).2) (fun x y r r2 hx hy e => ?_), h.2⟩
  have k1 := (key x r hx).1
  have k2 := (key y r2 hy).1
  by_cases e1 : x = j <;> by_cases e2 : y = j
  · rw [e1, e2]
  · rw [if_pos e1, if_neg e2] at e; exact absurd e.symm k2
  · rw [if_neg e1, if_pos e2] at e; exact absurd e k1
  · rw [if_neg e1, if_neg e2] at e; exact e
set_option maxHeartbeats 4000000 in
set_option maxRecDepth 100000 in
theorem c_Jx4a65c_grow_92f84_f {l : Launch} {D : va_G} {cy : Nat → ClassId} {B0 : Nat} {f : gF} {i j j2 a b n : Nat} {mc sz : Int} {g : Nat → Option Nat}  (hi : f i = some (a, .inr (0, [.int (iI mc), .ref b, .int (iI sz)]))) (hj : f j = some (b, cO cy n g)) (hij : i ≠ j) (hn10 : 10 ≤ n) (hn : n ≤ 60000) (h2 : f j2 = none) (hjj : j ≠ j2) {ci N : Nat} {C : String} {T : u_T} (hc : vwCl[ci]? = some (C, T, N)) (hcan : (.castable C "java/lang/Object") ∈ gNs) (hel : ∀ (x y : Nat), g x = some y → ∃ (k : Nat) (vs : List Value), f k = some (y, .inr (ci, vs))) : gM l yJx4a65c_grow_92f84 vJx4a65c_grow_92f84 3 69 D cy B0 [.ref (a), .int (iI (((n : Int) + 1)))] (f) (fun r g_ => ∃ q : Nat, r = some (.ref q) ∧ g_ = gup (gup f j q (cO cy (n + n / 2) (va_cpy g (fun _ => none) 0 0 n))) i a (.inr (0, [.int (iI mc), .ref q, .int (iI sz)]))) 1 (n + n / 2) := by
  refine g_start (cc := cJx4a65c_grow_92f84) (maxL := 4) (ret := (some (.array (.object "java/lang/Object")))) (by decide) rfl (Nat.le_of_ble_eq_true rfl) ?_
  intro p_ e_ s_ m_ be_ me_ co_ ls H locs K hr hlk hnm hK hW hl
  obtain ⟨hx, hb, hml, hown, hts⟩ := id K
  have hl : lv_has ls 4 [(0, .ref (a)), (1, .int (iI (((n : Int) + 1))))] := hl
  refine lv_aload_n hx hb dJx4a65c_grow_92f84_0 rfl (lv_at hl 0 rfl) ?_
  refine g_get (ref := RJx4a65c) (T := TJx4a65c) (N := 3) (ci := 0) hx hb hts wsC_Jx4a65c hown hK hW i hi rfl 1 (by decide) (hts _ lC_Jx4a65c_9) (fun x h => h) rfl dJx4a65c_grow_92f84_1 ?_
  refine g_alen hx hb hK hW j hj (ci := 3) (ty := .object "java/lang/Object") rfl (v := iI (n : Int)) (iI_nI n) dJx4a65c_grow_92f84_4 ?_
  refine lv_istore_n (lv' := [(2, .int (iI ((n : Int)))), (0, .ref (a)), (1, .int (iI (((n : Int) + 1))))]) hx hb dJx4a65c_grow_92f84_5 rfl hl (by decide) rfl (fun ls hl => ?_)
  refine lv_iload_n hx hb dJx4a65c_grow_92f84_6 rfl (lv_at hl 0 rfl) ?_
  refine xi_if_gt (tgt := 20) hx hb ⟨by omega, by omega⟩ dJx4a65c_grow_92f84_7 (by decide) (fun c_1 => ?_) (fun c_1 => ?_)
  · refine lv_iload_n hx hb dJx4a65c_grow_92f84_20 rfl (lv_at hl 0 rfl) ?_
    refine lv_iload_n hx hb dJx4a65c_grow_92f84_21 rfl (lv_at hl 2 rfl) ?_
    refine lv_iload_n hx hb dJx4a65c_grow_92f84_22 rfl (lv_at hl 0 rfl) ?_
    refine xi_isub hx hb dJx4a65c_grow_92f84_23 ?_
    refine lv_iload_n hx hb dJx4a65c_grow_92f84_24 rfl (lv_at hl 0 rfl) ?_
    refine xi_iconst hx hb dJx4a65c_grow_92f84_25 ?_
    refine lv_ishr hx hb dJx4a65c_grow_92f84_26 ?_
    rw [iI_shr (by omega)]
    refine g_callS (As := [.int (iI ((n : Int))), .int (iI (((n : Int) + 1) - (n : Int))), .int (iI (((n / 2 : Nat) : Int)))]) (rest := []) K (c_J8_newLength_cabcc ((n : Int)) (((n : Int) + 1) - (n : Int)) (((n / 2 : Nat) : Int)) ⟨by omega, by omega⟩ ⟨by omega, by omega⟩ ⟨by omega, by omega⟩) (va_cwS 3 hts gC_Jx4a65c_73 rfl rfl rfl (by decide +kernel) ⟨Nat.le_of_ble_eq_true rfl, Nat.le_of_ble_eq_true rfl⟩) hK hW rfl hl.1 rfl (Nat.le_of_ble_eq_true rfl) dJx4a65c_grow_92f84_27 ⟨by dsimp only; omega, by dsimp only; omega⟩ (fun v_ f_ H locs hp hW => ?_)
    obtain ⟨hpv, hpe⟩ := hp
    rw [hpe] at hW
    subst hpv
    refine xi_eq (z' := ((n + n / 2 : Nat) : Int)) (by split <;> omega) ?_
    refine lv_istore_n (lv' := [(3, .int (iI (((n + n / 2 : Nat) : Int)))), (2, .int (iI ((n : Int)))), (0, .ref (a)), (1, .int (iI (((n : Int) + 1))))]) hx hb dJx4a65c_grow_92f84_30 rfl hl (by decide) rfl (fun ls hl => ?_)
    refine lv_aload_n hx hb dJx4a65c_grow_92f84_31 rfl (lv_at hl 2 rfl) ?_
    refine lv_aload_n hx hb dJx4a65c_grow_92f84_32 rfl (lv_at hl 2 rfl) ?_
    refine g_get (ref := RJx4a65c) (T := TJx4a65c) (N := 3) (ci := 0) hx hb hts wsC_Jx4a65c hown hK hW i hi rfl 1 (by decide) (hts _ lC_Jx4a65c_9) (fun x h => h) rfl dJx4a65c_grow_92f84_33 ?_
    refine lv_iload_n hx hb dJx4a65c_grow_92f84_36 rfl (lv_at hl 0 rfl) ?_
    refine g_callS (As := [.ref (b), .int (iI (((n + n / 2 : Nat) : Int)))]) (rest := [.ref (a)]) K (c_J7_copyOf_1904c j2 (n + n / 2) hj hjj (by omega) (by omega) hc hcan (fun x y hxy => by obtain ⟨k, vs, hk⟩ := hel x y hxy; exact ⟨k, vs, hk, fun e => by rw [e, h2] at hk; cases hk⟩)) (va_cwS 2 hts gC_Jx4a65c_66 rfl rfl rfl (by decide +kernel) ⟨Nat.le_of_ble_eq_true rfl, Nat.le_of_ble_eq_true rfl⟩) hK hW rfl hl.1 rfl (Nat.le_of_ble_eq_true rfl) dJx4a65c_grow_92f84_37 ⟨Nat.le_refl _, by show 0 + (n + n / 2) ≤ n + n / 2; omega⟩ (fun v_ f_ H locs hp hW => ?_)
    obtain ⟨q, hpv, hpe⟩ := hp
    rw [hpe] at hW
    have hW := gW_mv hW h2 hjj
    subst hpv
    refine lv_dup_x1 hx hb dJx4a65c_grow_92f84_40 rfl rfl ?_
    refine g_put (ref := RJx4a65c) (T := TJx4a65c) (N := 3) (ci := 0) (ty := .array (.object "java/lang/Object")) hx hb hts wsC_Jx4a65c tyJx4a65c tyJx4a65c_ok nmJx4a65c hown hK hW i (cR_i hi hij) rfl 1 (by decide) (hts _ lC_Jx4a65c_9) (fun x h => h) rfl (by decide +kernel) rfl rfl (show 1 < 3 by decide) dJx4a65c_grow_92f84_41 (fun H locs hW => ?_)
    exact W.widen (by first | omega | (dsimp only; omega)) (by first | omega | (dsimp only; omega)) (g_aretA hx hb hr (Or.inr ⟨_, rfl⟩) hW ⟨q, rfl, rfl⟩ dJx4a65c_grow_92f84_44 hlk)
  · omega
set_option maxHeartbeats 4000000 in
set_option maxRecDepth 100000 in
theorem c_Jx4a65c_grow_92f84_0 {l : Launch} {D : va_G} {cy : Nat → ClassId} {B0 : Nat} {f : gF} {i j a : Nat} {mc : Int}  (hi : f i = some (a, .inr (0, [.int (iI mc), .ref (D.1 21), .int (iI 0)]))) (hij : i ≠ j) : gM l yJx4a65c_grow_92f84 vJx4a65c_grow_92f84 3 69 D cy B0 [.ref (a), .int (iI (1))] (f) (fun r g_ => ∃ q : Nat, r = some (.ref q) ∧ g_ = gup (gup f j q (cO cy 10 (fun _ => none))) i a (.inr (0, [.int (iI mc), .ref q, .int (iI 0)]))) 1 10 := by
  refine g_start (cc := cJx4a65c_grow_92f84) (maxL := 4) (ret := (some (.array (.object "java/lang/Object")))) (by decide) rfl (Nat.le_of_ble_eq_true rfl) ?_
  intro p_ e_ s_ m_ be_ me_ co_ ls H locs K hr hlk hnm hK hW hl
  obtain ⟨hx, hb, hml, hown, hts⟩ := id K
  have hl : lv_has ls 4 [(0, .ref (a)), (1, .int (iI (1)))] := hl
  refine lv_aload_n hx hb dJx4a65c_grow_92f84_0 rfl (lv_at hl 0 rfl) ?_
  refine g_get (ref := RJx4a65c) (T := TJx4a65c) (N := 3) (ci := 0) hx hb hts wsC_Jx4a65c hown hK hW i hi rfl 1 (by decide) (hts _ lC_Jx4a65c_9) (fun x h => h) rfl dJx4a65c_grow_92f84_1 ?_
  refine g_alenE hx hb hK hW dJx4a65c_grow_92f84_4 ?_
  refine lv_istore_n (lv' := [(2, .int (iI (0))), (0, .ref (a)), (1, .int (iI (1)))]) hx hb dJx4a65c_grow_92f84_5 rfl hl (by decide) rfl (fun ls hl => ?_)
  refine lv_iload_n hx hb dJx4a65c_grow_92f84_6 rfl (lv_at hl 0 rfl) ?_
  refine xi_if_gt (tgt := 20) hx hb ⟨by omega, by omega⟩ dJx4a65c_grow_92f84_7 (by decide) (fun c_1 => ?_) (fun c_1 => ?_)
  · exact absurd c_1 (by decide)
  · refine lv_aload_n hx hb dJx4a65c_grow_92f84_10 rfl (lv_at hl 1 rfl) ?_
    refine g_get (ref := RJx4a65c) (T := TJx4a65c) (N := 3) (ci := 0) hx hb hts wsC_Jx4a65c hown hK hW i hi rfl 1 (by decide) (hts _ lC_Jx4a65c_9) (fun x h => h) rfl dJx4a65c_grow_92f84_11 ?_
    refine g_gets hx hb hW hown (hts _ lC_Jx4a65c_39) dJx4a65c_grow_92f84_14 ?_
    refine lv_acmp_eq (rx := some (D.1 21)) (ry := some (D.1 21)) (tgt := 45) hx hb dJx4a65c_grow_92f84_17 (by decide) (fun _ => ?_) (fun h => absurd rfl h)
    refine lv_aload_n hx hb dJx4a65c_grow_92f84_45 rfl (lv_at hl 1 rfl) ?_
    refine xi_bipush hx hb dJx4a65c_grow_92f84_46 (by decide) ?_
    refine lv_iload_n hx hb dJx4a65c_grow_92f84_48 rfl (lv_at hl 2 rfl) ?_
    refine va_mmax hx hb (by rw [hml]; exact hl.1.symm) hown (hts _ (wsC_sub _ wsCw_92)) (hts _ (wsC_sub _ wsCw_24)) (hts _ (wsC_sub _ wsCw_25)) (hts _ (wsC_sub _ wsCw_26)) (Nat.le_of_ble_eq_true rfl) (Nat.le_of_ble_eq_true rfl) (Nat.le_of_ble_eq_true rfl) (Nat.le_of_ble_eq_true rfl) dJx4a65c_grow_92f84_49 ?_
    rw [iI_max ⟨by omega, by omega⟩ ⟨by omega, by omega⟩]
    refine xi_eq (z' := 10) (by decide) ?_
    refine g_newq hx hb hown (hts _ hC_Jx4a65c_7) hK hW j (N' := 10) (by decide) (by decide) (by decide) (by decide) (by decide) dJx4a65c_grow_92f84_52 (fun q H hW hne => ?_)
    refine lv_dup_x1 hx hb dJx4a65c_grow_92f84_55 rfl rfl ?_
    refine g_put (ref := RJx4a65c) (T := TJx4a65c) (N := 3) (ci := 0) (ty := .array (.object "java/lang/Object")) hx hb hts wsC_Jx4a65c tyJx4a65c tyJx4a65c_ok nmJx4a65c hown hK hW i (cR_i hi hij) rfl 1 (by decide) (hts _ lC_Jx4a65c_9) (fun x h => h) rfl (by decide +kernel) rfl rfl (show 1 < 3 by decide) dJx4a65c_grow_92f84_56 (fun H locs hW => ?_)
    exact W.widen (by first | omega | (dsimp only; omega)) (by first | omega | (dsimp only; omega)) (g_aretA hx hb hr (Or.inr ⟨_, rfl⟩) hW ⟨q, rfl, rfl⟩ dJx4a65c_grow_92f84_59 hlk)
