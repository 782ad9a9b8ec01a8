/-! Row: a row of longs -/
abbrev cR (cy : Nat → ClassId) (n : Nat) (g : Int → Int64) : va_E := .inl (cy 1, n, .inr (.inl (lA g)))
theorem gup_gup (f : gF) (j b c : Nat) (x y : va_E) : gup (gup f j b x) j c y = gup f j c y := by
  funext i
  by_cases h : i = j <;> simp [gup, h]
theorem cR_i {f : gF} {i j a b : Nat} {x y : va_E} (hi : f i = some (a, x)) (hij : i ≠ j) : gup f j b y i = some (a, x) := by rw [gup_n _ _ _ hij, hi]
section CR
variable {p : Program} {l : Launch} {e : Env} {R : Room} {s : State} {m : MethodId} {args : Array Value} {below : List Frame} {meth : Method} {c : Code} {H : Heap} {locs : List Loc} {cells slots : Nat} {Q : State → Prop}
variable {cc : ByteArray} {pc : Nat} {ls : Array Slot} {rest : List Value}
variable {D : va_G} {cy : Nat → ClassId} {B0 : Nat} {H0 : State} {f : gF} {b n : Nat} {g : Int → Int64}
theorem cr_ld (hexec : p.tables.exec = Jvm.exec) (hb : c.code = cc) (hK : gK D cy s) (hW : gW D B0 H0 f H locs) (j : Nat) (hj : f j = some (b, cR cy n g)) {z : Int} (hz : 0 ≤ z ∧ z < n) (hn : n ≤ 100000) (hdg : decode cc pc = .ok (.laload, 1))
    (k : W p l e R s m args below meth c H locs cells slots Q (F0 m (pc + 1) ls (.long (g z) :: rest))) : W p l e R s m args below meth c H locs cells slots Q (F0 m pc ls (.int (iI z) :: .ref b :: rest)) :=
  g_lald hexec hb hK hW j hj (iI_in hz.1 hz.2 (by omega)) hdg (by rw [lA_at g hz.1 (by omega)]; exact k)
theorem cr_st (hexec : p.tables.exec = Jvm.exec) (hb : c.code = cc) (hK : gK D cy s) (hW : gW D B0 H0 f H locs) (j : Nat) (hj : f j = some (b, cR cy n g)) {z : Int} {v : Int64} (hz : 0 ≤ z ∧ z < n) (hn : n ≤ 100000) (hdg : decode cc pc = .ok (.lastore, 1))
    (k : ∀ (H : Heap) (locs : List Loc), gW D B0 H0 (gup f j b (cR cy n (lup g z v))) H locs → W p l e R s m args below meth c H locs cells slots Q (F0 m (pc + 1) ls rest)) : W p l e R s m args below meth c H locs cells slots Q (F0 m pc ls (.long v :: .int (iI z) :: .ref b :: rest)) :=
  g_last hexec hb hK hW j hj (iI_in hz.1 hz.2 (by omega)) hdg (fun H1 l1 h1 => k H1 l1 (by rw [lA_up g hz.1 hz.2 (by omega)] at h1; exact h1))
end CR
set_option maxHeartbeats 4000000 in
set_option maxRecDepth 100000 in
theorem c_X9_at {l : Launch} {D : va_G} {cy : Nat → ClassId} {B0 : Nat} {f : gF} {i j a b n : Nat} {g : Int → Int64} (z : Int) (hi : f i = some (a, .inr (10, [.ref b]))) (hj : f j = some (b, cR cy n g)) (hij : i ≠ j) (hn : n ≤ 100000) (hz : 0 ≤ z ∧ z < n) : gM l yX9_at vX9_at 0 0 D cy B0 [.ref (a), .int (iI (z))] (f) (fun r g_ => r = some (.long (g z)) ∧ g_ = f) 0 0 := by
  refine g_start (cc := cX9_at) (maxL := 2) (ret := (some .long)) (by decide) rfl (Nat.le_of_ble_eq_true rfl) ?_
  intro p_ e_ s_ m_ be_ me_ co_ ls H locs K hr hlk hnm hK hW hl
  obtain ⟨hx, hb, hml, hown, hts⟩ := id K
  have hl : lv_has ls 2 [(0, .ref (a)), (1, .int (iI (z)))] := hl
  refine lv_iload_n hx hb dX9_at_0 rfl (lv_at hl 1 rfl) ?_
  refine xi_if_lt (tgt := 22) hx hb ⟨by omega, by omega⟩ dX9_at_1 (by decide) (fun c_1 => ?_) (fun c_1 => ?_)
  · omega
  · refine lv_iload_n hx hb dX9_at_4 rfl (lv_at hl 1 rfl) ?_
    refine lv_aload_n hx hb dX9_at_5 rfl (lv_at hl 0 rfl) ?_
    refine g_get (ref := RX9) (T := TX9) (N := 1) (ci := 10) hx hb hts wsC_X9 hown hK hW i hi rfl 0 (by decide) (hts _ lC_X9_13) (fun x h => h) rfl dX9_at_6 ?_
    refine g_alen hx hb hK hW j hj (ci := 1) (ty := .long) rfl (v := iI (n : Int)) (iI_nI n) dX9_at_9 ?_
    refine xi_icmp_ge (tgt := 22) hx hb ⟨by omega, by omega⟩ ⟨by omega, by omega⟩ dX9_at_10 (by decide) (fun c_2 => ?_) (fun c_2 => ?_)
    · omega
    · refine lv_aload_n hx hb dX9_at_13 rfl (lv_at hl 0 rfl) ?_
      refine g_get (ref := RX9) (T := TX9) (N := 1) (ci := 10) hx hb hts wsC_X9 hown hK hW i hi rfl 0 (by decide) (hts _ lC_X9_13) (fun x h => h) rfl dX9_at_14 ?_
      refine lv_iload_n hx hb dX9_at_17 rfl (lv_at hl 1 rfl) ?_
      refine cr_ld hx hb hK hW j hj ⟨by omega, by omega⟩ hn dX9_at_18 ?_
      refine lv_goto (tgt := 23) hx hb dX9_at_19 (by decide) ?_
      exact g_lret hx hb hr hW ⟨rfl, rfl⟩ dX9_at_23 hlk
set_option maxHeartbeats 4000000 in
set_option maxRecDepth 100000 in
theorem c_X9_isSet {l : Launch} {D : va_G} {cy : Nat → ClassId} {B0 : Nat} {f : gF} {i j a b n : Nat} {g : Int → Int64} (z : Int) (hi : f i = some (a, .inr (10, [.ref b]))) (hj : f j = some (b, cR cy n g)) (hij : i ≠ j) (hn : n ≤ 100000) (hz : 0 ≤ z ∧ z < n) : gM l yX9_isSet vX9_isSet 0 0 D cy B0 [.ref (a), .int (iI (z))] (f) (fun r g_ => r = some (.int (iI (bI (!decide (g z = 0))))) ∧ g_ = f) 0 0 := by
  refine g_start (cc := cX9_isSet) (maxL := 2) (ret := (some .boolean)) (by decide) rfl (Nat.le_of_ble_eq_true rfl) ?_
  intro p_ e_ s_ m_ be_ me_ co_ ls H locs K hr hlk hnm hK hW hl
  obtain ⟨hx, hb, hml, hown, hts⟩ := id K
  have hl : lv_has ls 2 [(0, .ref (a)), (1, .int (iI (z)))] := hl
  refine lv_iload_n hx hb dX9_isSet_0 rfl (lv_at hl 1 rfl) ?_
  refine xi_if_lt (tgt := 28) hx hb ⟨by omega, by omega⟩ dX9_isSet_1 (by decide) (fun c_1 => ?_) (fun c_1 => ?_)
  · omega
  · refine lv_iload_n hx hb dX9_isSet_4 rfl (lv_at hl 1 rfl) ?_
    refine lv_aload_n hx hb dX9_isSet_5 rfl (lv_at hl 0 rfl) ?_
    refine g_get (ref := RX9) (T := TX9) (N := 1) (ci := 10) hx hb hts wsC_X9 hown hK hW i hi rfl 0 (by decide) (hts _ lC_X9_13) (fun x h => h) rfl dX9_isSet_6 ?_
    refine g_alen hx hb hK hW j hj (ci := 1) (ty := .long) rfl (v := iI (n : Int)) (iI_nI n) dX9_isSet_9 ?_
    refine xi_icmp_ge (tgt := 28) hx hb ⟨by omega, by omega⟩ ⟨by omega, by omega⟩ dX9_isSet_10 (by decide) (fun c_2 => ?_) (fun c_2 => ?_)
    · omega
    · refine lv_aload_n hx hb dX9_isSet_13 rfl (lv_at hl 0 rfl) ?_
      refine g_get (ref := RX9) (T := TX9) (N := 1) (ci := 10) hx hb hts wsC_X9 hown hK hW i hi rfl 0 (by decide) (hts _ lC_X9_13) (fun x h => h) rfl dX9_isSet_14 ?_
      refine lv_iload_n hx hb dX9_isSet_17 rfl (lv_at hl 1 rfl) ?_
      refine cr_ld hx hb hK hW j hj ⟨by omega, by omega⟩ hn dX9_isSet_18 ?_
      refine lv_lconst (v := 0) hx hb dX9_isSet_19 (by decide) ?_
      refine xi_lcmp_eq (tgt := 28) hx hb dX9_isSet_20 dX9_isSet_21 (by decide) (fun c_3 => ?_) (fun c_3 => ?_)
      · refine xi_iconst hx hb dX9_isSet_28 ?_
        exact g_zret hx hb hr (Or.inl rfl) hW ⟨congrArg (fun z => some (Value.int (iI z))) (bI_f (by simp [c_3])), rfl⟩ dX9_isSet_29 hlk
      · refine xi_iconst hx hb dX9_isSet_24 ?_
        refine lv_goto (tgt := 29) hx hb dX9_isSet_25 (by decide) ?_
        exact g_zret hx hb hr (Or.inr rfl) hW ⟨congrArg (fun z => some (Value.int (iI z))) (bI_t (by simp [c_3])), rfl⟩ dX9_isSet_29 hlk
set_option maxHeartbeats 4000000 in
set_option maxRecDepth 100000 in
theorem c_X9_put {l : Launch} {D : va_G} {cy : Nat → ClassId} {B0 : Nat} {f : gF} {i j a b n : Nat} {g : Int → Int64} (z : Int) (v : Int64) (hi : f i = some (a, .inr (10, [.ref b]))) (hj : f j = some (b, cR cy n g)) (hij : i ≠ j) (hn : n ≤ 100000) (hz : 0 ≤ z ∧ z < n) : gM l yX9_put vX9_put 0 0 D cy B0 [.ref (a), .int (iI (z)), .long (v)] (f) (fun r g_ => r = none ∧ g_ = gup f j b (cR cy n (lup g z v))) 0 0 := by
  refine g_start (cc := cX9_put) (maxL := 4) (ret := none) (by decide) rfl (Nat.le_of_ble_eq_true rfl) ?_
  intro p_ e_ s_ m_ be_ me_ co_ ls H locs K hr hlk hnm hK hW hl
  obtain ⟨hx, hb, hml, hown, hts⟩ := id K
  have hl : lv_has ls 4 [(0, .ref (a)), (1, .int (iI (z))), (2, .long (v))] := hl
  refine lv_iload_n hx hb dX9_put_0 rfl (lv_at hl 1 rfl) ?_
  refine xi_if_lt (tgt := 20) hx hb ⟨by omega, by omega⟩ dX9_put_1 (by decide) (fun c_1 => ?_) (fun c_1 => ?_)
  · omega
  · refine lv_iload_n hx hb dX9_put_4 rfl (lv_at hl 1 rfl) ?_
    refine lv_aload_n hx hb dX9_put_5 rfl (lv_at hl 0 rfl) ?_
    refine g_get (ref := RX9) (T := TX9) (N := 1) (ci := 10) hx hb hts wsC_X9 hown hK hW i hi rfl 0 (by decide) (hts _ lC_X9_13) (fun x h => h) rfl dX9_put_6 ?_
    refine g_alen hx hb hK hW j hj (ci := 1) (ty := .long) rfl (v := iI (n : Int)) (iI_nI n) dX9_put_9 ?_
    refine xi_icmp_ge (tgt := 20) hx hb ⟨by omega, by omega⟩ ⟨by omega, by omega⟩ dX9_put_10 (by decide) (fun c_2 => ?_) (fun c_2 => ?_)
    · omega
    · refine lv_aload_n hx hb dX9_put_13 rfl (lv_at hl 0 rfl) ?_
      refine g_get (ref := RX9) (T := TX9) (N := 1) (ci := 10) hx hb hts wsC_X9 hown hK hW i hi rfl 0 (by decide) (hts _ lC_X9_13) (fun x h => h) rfl dX9_put_14 ?_
      refine lv_iload_n hx hb dX9_put_17 rfl (lv_at hl 1 rfl) ?_
      refine lv_lload_n hx hb dX9_put_18 rfl (lv_at hl 2 rfl) ?_
      refine cr_st hx hb hK hW j hj ⟨by omega, by omega⟩ hn dX9_put_19 (fun H locs hW => ?_)
      exact g_vret hx hb hr hW ⟨rfl, rfl⟩ dX9_put_20 hlk
set_option maxHeartbeats 4000000 in
set_option maxRecDepth 100000 in
theorem c_X9_add {l : Launch} {D : va_G} {cy : Nat → ClassId} {B0 : Nat} {f : gF} {i j a b n : Nat} {g : Int → Int64} (z : Int) (v : Int64) (hi : f i = some (a, .inr (10, [.ref b]))) (hj : f j = some (b, cR cy n g)) (hij : i ≠ j) (hn : n ≤ 100000) (hz : 0 ≤ z ∧ z < n) : gM l yX9_add vX9_add 0 0 D cy B0 [.ref (a), .int (iI (z)), .long (v)] (f) (fun r g_ => r = none ∧ g_ = gup f j b (cR cy n (lup g z (g z + v)))) 0 0 := by
  refine g_start (cc := cX9_add) (maxL := 4) (ret := none) (by decide) rfl (Nat.le_of_ble_eq_true rfl) ?_
  intro p_ e_ s_ m_ be_ me_ co_ ls H locs K hr hlk hnm hK hW hl
  obtain ⟨hx, hb, hml, hown, hts⟩ := id K
  have hl : lv_has ls 4 [(0, .ref (a)), (1, .int (iI (z))), (2, .long (v))] := hl
  refine lv_iload_n hx hb dX9_add_0 rfl (lv_at hl 1 rfl) ?_
  refine xi_if_lt (tgt := 23) hx hb ⟨by omega, by omega⟩ dX9_add_1 (by decide) (fun c_1 => ?_) (fun c_1 => ?_)
  · omega
  · refine lv_iload_n hx hb dX9_add_4 rfl (lv_at hl 1 rfl) ?_
    refine lv_aload_n hx hb dX9_add_5 rfl (lv_at hl 0 rfl) ?_
    refine g_get (ref := RX9) (T := TX9) (N := 1) (ci := 10) hx hb hts wsC_X9 hown hK hW i hi rfl 0 (by decide) (hts _ lC_X9_13) (fun x h => h) rfl dX9_add_6 ?_
    refine g_alen hx hb hK hW j hj (ci := 1) (ty := .long) rfl (v := iI (n : Int)) (iI_nI n) dX9_add_9 ?_
    refine xi_icmp_ge (tgt := 23) hx hb ⟨by omega, by omega⟩ ⟨by omega, by omega⟩ dX9_add_10 (by decide) (fun c_2 => ?_) (fun c_2 => ?_)
    · omega
    · refine lv_aload_n hx hb dX9_add_13 rfl (lv_at hl 0 rfl) ?_
      refine g_get (ref := RX9) (T := TX9) (N := 1) (ci := 10) hx hb hts wsC_X9 hown hK hW i hi rfl 0 (by decide) (hts _ lC_X9_13) (fun x h => h) rfl dX9_add_14 ?_
      refine lv_iload_n hx hb dX9_add_17 rfl (lv_at hl 1 rfl) ?_
      refine lv_dup2_11 hx hb dX9_add_18 rfl rfl ?_
      refine cr_ld hx hb hK hW j hj ⟨by omega, by omega⟩ hn dX9_add_19 ?_
      refine lv_lload_n hx hb dX9_add_20 rfl (lv_at hl 2 rfl) ?_
      refine lv_ladd hx hb dX9_add_21 ?_
      refine cr_st hx hb hK hW j hj ⟨by omega, by omega⟩ hn dX9_add_22 (fun H locs hW => ?_)
      exact g_vret hx hb hr hW ⟨rfl, rfl⟩ dX9_add_23 hlk
set_option maxHeartbeats 4000000 in
set_option maxRecDepth 100000 in
theorem c_X9_mark {l : Launch} {D : va_G} {cy : Nat → ClassId} {B0 : Nat} {f : gF} {i j a b n : Nat} {g : Int → Int64} (z : Int) (is : Bool) (hi : f i = some (a, .inr (10, [.ref b]))) (hj : f j = some (b, cR cy n g)) (hij : i ≠ j) (hn : n ≤ 100000) (hz : 0 ≤ z ∧ z < n) : gM l yX9_mark vX9_mark 1 23 D cy B0 [.ref (a), .int (iI (z)), .int (iI (bI (is)))] (f) (fun r g_ => r = none ∧ g_ = gup f j b (cR cy n (lup g z (if is then 1 else 0)))) 0 0 := by
  refine g_start (cc := cX9_mark) (maxL := 3) (ret := none) (by decide) rfl (Nat.le_of_ble_eq_true rfl) ?_
  intro p_ e_ s_ m_ be_ me_ co_ ls H locs K hr hlk hnm hK hW hl
  obtain ⟨hx, hb, hml, hown, hts⟩ := id K
  have hl : lv_has ls 3 [(0, .ref (a)), (1, .int (iI (z))), (2, .int (iI (bI (is))))] := hl
  refine lv_aload_n hx hb dX9_mark_0 rfl (lv_at hl 0 rfl) ?_
  refine lv_iload_n hx hb dX9_mark_1 rfl (lv_at hl 1 rfl) ?_
  refine lv_iload_n hx hb dX9_mark_2 rfl (lv_at hl 2 rfl) ?_
  refine xi_ifb_eq (tgt := 10) hx hb dX9_mark_3 (by decide) (fun c_1 => ?_) (fun c_1 => ?_)
  · refine lv_lconst (v := 0) hx hb dX9_mark_10 (by decide) ?_
    refine g_callV (i := i) (As := [.int (iI (z)), .long (0)]) (rest := []) K (c_X9_put z 0 hi hj hij hn hz) (cwV 2 hts gC_X9_19 rfl rfl rfl (by decide +kernel) ⟨Nat.le_of_ble_eq_true rfl, Nat.le_of_ble_eq_true rfl⟩) hK hW hi rfl rfl hl.1 rfl (Nat.le_of_ble_eq_true rfl) dX9_mark_11 ⟨Nat.le_refl _, Nat.le_refl _⟩ (fun v_ f_ H locs hp hW => ?_)
    obtain ⟨hpv, hpe⟩ := hp
    rw [hpe] at hW
    subst hpv
    exact g_vret hx hb hr hW ⟨rfl, by rw [c_1]; rfl⟩ dX9_mark_14 hlk
  · refine lv_lconst (v := 1) hx hb dX9_mark_6 (by decide) ?_
    refine lv_goto (tgt := 11) hx hb dX9_mark_7 (by decide) ?_
    refine g_callV (i := i) (As := [.int (iI (z)), .long (1)]) (rest := []) K (c_X9_put z 1 hi hj hij hn hz) (cwV 2 hts gC_X9_19 rfl rfl rfl (by decide +kernel) ⟨Nat.le_of_ble_eq_true rfl, Nat.le_of_ble_eq_true rfl⟩) hK hW hi rfl rfl hl.1 rfl (Nat.le_of_ble_eq_true rfl) dX9_mark_11 ⟨Nat.le_refl _, Nat.le_refl _⟩ (fun v_ f_ H locs hp hW => ?_)
    obtain ⟨hpv, hpe⟩ := hp
    rw [hpe] at hW
    subst hpv
    exact g_vret hx hb hr hW ⟨rfl, by rw [c_1]; rfl⟩ dX9_mark_14 hlk
def flG (g : Int → Int64) (v : Int64) (k : Int) : Int → Int64 := fun z => if 0 ≤ z ∧ z < k then v else g z
theorem flG_0 (g : Int → Int64) (v : Int64) : flG g v 0 = g := by
  funext z
  unfold flG
  rw [if_neg (by omega)]
theorem flG_s (g : Int → Int64) (v : Int64) {k : Int} (h : 0 ≤ k) : lup (flG g v k) k v = flG g v (k + 1) := by
  funext z
  unfold flG lup
  by_cases e : z = k
  · rw [if_pos e, if_pos (by omega)]
  · rw [if_neg e]
    show (if 0 ≤ z ∧ z < k then v else g z) = _
    by_cases h2 : 0 ≤ z ∧ z < k
    · rw [if_pos h2, if_pos (by omega)]
    · rw [if_neg h2, if_neg (by omega)]
theorem cR_0 {f : gF} {j b n : Nat} {cy : Nat → ClassId} {g : Int → Int64} (hj : f j = some (b, cR cy n g)) : gup f j b (cR cy n g) = f := by
  funext x
  by_cases h : x = j
  · subst h; rw [gup_s, hj]
  · rw [gup_n _ _ _ h]
set_option maxHeartbeats 4000000 in
set_option maxRecDepth 100000 in
theorem c_X9_fill {l : Launch} {D : va_G} {cy : Nat → ClassId} {B0 : Nat} {f : gF} {i j a b n : Nat} {g : Int → Int64} (v : Int64) (hi : f i = some (a, .inr (10, [.ref b]))) (hj : f j = some (b, cR cy n g)) (hij : i ≠ j) (hn : n ≤ 100000) : gM l yX9_fill vX9_fill 0 0 D cy B0 [.ref (a), .long (v)] (f) (fun r g_ => r = none ∧ g_ = gup f j b (cR cy n (flG g v n))) 0 0 := by
  refine g_start (cc := cX9_fill) (maxL := 4) (ret := none) (by decide) rfl (Nat.le_of_ble_eq_true rfl) ?_
  intro p_ e_ s_ m_ be_ me_ co_ ls H locs K hr hlk hnm hK hW hl
  obtain ⟨hx, hb, hml, hown, hts⟩ := id K
  have hl : lv_has ls 4 [(0, .ref (a)), (1, .long (v))] := hl
  refine xi_iconst hx hb dX9_fill_0 ?_
  refine lv_istore_n (lv' := [(3, .int (iI (0))), (0, .ref (a)), (1, .long (v))]) hx hb dX9_fill_1 rfl hl (by decide) rfl (fun ls hl => ?_)
  rw [← cR_0 hj, ← flG_0 g v] at hW
  refine lp_w1 (Wg := fun (H : Heap) (locs : List Loc) (ls : Array Slot) => W p_ l e_ { frames := 0, cells := 0, slots := 0, locals := 0 } s_ m_ ([.ref (a), .long (v)] : List Value).toArray be_ me_ co_ H locs 0 0 (MQ be_ (gQ D B0 (fun (r : Option Value) (g_ : gF) => r = none ∧ g_ = gup f j b (cR cy n (flG g v n)))) ([.ref (a), .long (v)] : List Value).toArray s_ 0 0 (fun q : Nat => B0 ≤ q)) (F0 m_ 2 ls [])) (fun (k : Int) (H : Heap) (locs : List Loc) (ls : Array Slot) => (0 ≤ k ∧ k ≤ n) ∧ gW D B0 s_ (gup f j b (cR cy n (flG g v k))) H locs ∧ lv_has ls 4 [(3, .int (iI (k))), (1, .long (v)), (0, .ref (a))]) (fun (k : Int) => ((n : Int) - k).toNat) (fun k H locs ls hI ih_lp_1 => ?_) (0) _ _ _ ⟨⟨by decide, by omega⟩, hW, lv_sub hl [0, 2, 1] rfl⟩
  obtain ⟨hI_lp_1, hW, hl⟩ := hI
  refine lv_iload_n hx hb dX9_fill_2 rfl (lv_at hl 0 rfl) ?_
  refine lv_aload_n hx hb dX9_fill_3 rfl (lv_at hl 2 rfl) ?_
  refine g_get (ref := RX9) (T := TX9) (N := 1) (ci := 10) hx hb hts wsC_X9 hown hK hW i (cR_i hi hij) rfl 0 (by decide) (hts _ lC_X9_13) (fun x h => h) rfl dX9_fill_4 ?_
  refine g_alen hx hb hK hW j (gup_s _ _ _ _) (ci := 1) (ty := .long) rfl (v := iI (n : Int)) (iI_nI n) dX9_fill_7 ?_
  refine xi_icmp_ge (tgt := 24) hx hb ⟨by omega, by omega⟩ ⟨by omega, by omega⟩ dX9_fill_8 (by decide) (fun c_2 => ?_) (fun c_2 => ?_)
  · have hke : k = n := by omega
    rw [hke] at hW
    exact g_vret hx hb hr hW ⟨rfl, rfl⟩ dX9_fill_24 hlk
  · refine lv_aload_n hx hb dX9_fill_11 rfl (lv_at hl 2 rfl) ?_
    refine g_get (ref := RX9) (T := TX9) (N := 1) (ci := 10) hx hb hts wsC_X9 hown hK hW i (cR_i hi hij) rfl 0 (by decide) (hts _ lC_X9_13) (fun x h => h) rfl dX9_fill_12 ?_
    refine lv_iload_n hx hb dX9_fill_15 rfl (lv_at hl 0 rfl) ?_
    refine lv_lload_n hx hb dX9_fill_16 rfl (lv_at hl 1 rfl) ?_
    refine cr_st hx hb hK hW j (gup_s _ _ _ _) ⟨by omega, by omega⟩ hn dX9_fill_17 (fun H locs hW => ?_)
    rw [gup_gup] at hW
    refine xi_iinc (lv' := [(3, .int (iI (k + 1))), (1, .long (v)), (0, .ref (a))]) hx hb dX9_fill_18 hl (k := 0) rfl (by decide) rfl (fun ls hl => ?_)
    refine lv_goto (tgt := 2) hx hb dX9_fill_21 (by decide) ?_
    rw [flG_s g v hI_lp_1.1] at hW
    exact ih_lp_1 (k + 1) _ _ _ (by omega) ⟨⟨by omega, by omega⟩, hW, lv_sub hl [0, 1, 2] rfl⟩
