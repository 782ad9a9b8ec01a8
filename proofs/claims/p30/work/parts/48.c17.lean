def kmc (n : Nat) : Nat := if n = kcap n then 1 else 0
def kms (n : Nat) : Nat := if n = kcap n then kcap (n + 1) else 0
/-- Book.keep: the book has one entry more; where the row is full a longer one is made -/
theorem c_X3_keep {l : Launch} {D : va_G} {cy : Nat → ClassId} {B0 : Nat} {ad bk : Nat → Nat} {S : ST} {I : Int → Bool} {cX qX : Int → Int64} {G : gF} (hwf : wf S) {b o c k : Int} {v : Int64} {q : Nat} (hbb : rI b) (hoo : rI o) (hcc : rI c) (hkk : rI k) (hG : G 50001 = some (q, .inr (6, [.int (iI b), .int (iI o), .int (iI c), .long v, .int (iI k)]))) (he : S.1 31 0 < 20000) (hE0 : nE S = 0 → bk 10 = D.1 21) :
    gM l yX3_keep vX3_keep 7 156 D cy B0 [.ref (ad 4), .ref (q)] (kW cy ad bk S (I, cX, qX) G) (fun r g_ => r = none ∧ ∃ q2 : Nat, g_ = kW cy ad (adK bk (nE S) q q2) (sEnt S b o c v k) (I, cX, qX) (gno G 50001)) (kmc (nE S)) (kms (nE S)) := by
  by_cases hnf : nE S = kcap (nE S)
  · by_cases hn0 : nE S = 0
    · rw [show kmc (nE S) = 1 from if_pos hnf, show kms (nE S) = 10 by rw [show kms (nE S) = kcap (nE S + 1) from if_pos hnf, hn0]; rfl]
      exact c_X3_keep_0 hwf hbb hoo hcc hkk hG he hn0 (hE0 hn0)
    · rw [show kmc (nE S) = 1 from if_pos hnf, show kms (nE S) = nE S + nE S / 2 by rw [show kms (nE S) = kcap (nE S + 1) from if_pos hnf]; conv => lhs; unfold kcap; rw [if_pos hnf, if_neg hn0]]
      exact c_X3_keep_f hwf hbb hoo hcc hkk hG he hn0 hnf
  · rw [show kmc (nE S) = 0 from if_neg hnf, show kms (nE S) = 0 from if_neg hnf]
    exact c_X3_keep_r hwf hbb hoo hcc hkk hG he (fun h0 => hnf (by rw [h0]; rfl)) hnf
set_option maxHeartbeats 4000000 in
set_option maxRecDepth 100000 in
theorem c_X5_init {l : Launch} {D : va_G} {cy : Nat → ClassId} {B0 : Nat} {f : gF} {i a : Nat} (b : Int) (c : Int) (u : Int) (v : Int64) (k : Int)  (hi : f i = some (a, .inr (6, [.int (iI 0), .int (iI 0), .int (iI 0), .long 0, .int (iI 0)]))) : gM l yX5_init vX5_init 1 24 D cy B0 [.ref (a), .int (iI (b)), .int (iI (c)), .int (iI (u)), .long (v), .int (iI (k))] (f) (fun r g_ => r = none ∧ g_ = gup f i a (.inr (6, [.int (iI b), .int (iI c), .int (iI u), .long v, .int (iI k)]))) 0 0 := by
  refine g_start (cc := cX5_init) (maxL := 7) (ret := none) (by decide) rfl (Nat.le_of_ble_eq_true rfl) ?_
  intro p_ e_ s_ m_ be_ me_ co_ ls H locs K hr hlk hnm hK hW hl
  obtain ⟨hx, hb, hml, hown, hts⟩ := id K
  have hl : lv_has ls 7 [(0, .ref (a)), (1, .int (iI (b))), (2, .int (iI (c))), (3, .int (iI (u))), (4, .long (v)), (6, .int (iI (k)))] := hl
  refine lv_aload_n hx hb dX5_init_0 rfl (lv_at hl 0 rfl) ?_
  refine W.objInit hx hb hown (hts _ (wsC_sub _ wsCw_62)) (hts _ (wsC_sub _ wsCw_1)) (hts _ (wsC_sub _ wsCw_2)) rfl (by rw [hml]; exact hl.1) rfl dX5_init_1 (Nat.le_of_ble_eq_true rfl) (Nat.le_of_ble_eq_true rfl) ?_
  refine W.eq (g2 := F0 m_ 4 ls []) rfl ?_
  refine lv_aload_n hx hb dX5_init_4 rfl (lv_at hl 0 rfl) ?_
  refine lv_iload_n hx hb dX5_init_5 rfl (lv_at hl 1 rfl) ?_
  refine g_putF (ref := RX5) (T := TX5) (N := 5) (ci := 6) (ty := tyX5 0) (v := .int (iI (b))) hx hb hts wsC_X5 tyX5 tyX5_ok nmX5 hown hK hW i hi rfl 0 (by decide) (hts _ lC_X5_7) (fun x h => h) rfl hnm rfl (by decide +kernel) rfl rfl (show 0 < 5 by decide) dX5_init_6 (fun H locs hW => ?_)
  refine lv_aload_n hx hb dX5_init_9 rfl (lv_at hl 0 rfl) ?_
  refine lv_iload_n hx hb dX5_init_10 rfl (lv_at hl 2 rfl) ?_
  refine g_putF (ref := RX5) (T := TX5) (N := 5) (ci := 6) (ty := tyX5 1) (v := .int (iI (c))) hx hb hts wsC_X5 tyX5 tyX5_ok nmX5 hown hK hW i (gup_s _ _ _ _) rfl 1 (by decide) (hts _ lC_X5_13) (fun x h => h) rfl hnm rfl (by decide +kernel) rfl rfl (show 1 < 5 by decide) dX5_init_11 (fun H locs hW => ?_)
  rw [gup_gup] at hW
  refine lv_aload_n hx hb dX5_init_14 rfl (lv_at hl 0 rfl) ?_
  refine lv_iload_n hx hb dX5_init_15 rfl (lv_at hl 3 rfl) ?_
  refine g_putF (ref := RX5) (T := TX5) (N := 5) (ci := 6) (ty := tyX5 2) (v := .int (iI (u))) hx hb hts wsC_X5 tyX5 tyX5_ok nmX5 hown hK hW i (gup_s _ _ _ _) rfl 2 (by decide) (hts _ lC_X5_16) (fun x h => h) rfl hnm rfl (by decide +kernel) rfl rfl (show 2 < 5 by decide) dX5_init_16 (fun H locs hW => ?_)
  rw [gup_gup] at hW
  refine lv_aload_n hx hb dX5_init_19 rfl (lv_at hl 0 rfl) ?_
  refine lv_lload hx hb dX5_init_20 (lv_at hl 4 rfl) ?_
  refine g_putF (ref := RX5) (T := TX5) (N := 5) (ci := 6) (ty := tyX5 3) (v := .long (v)) hx hb hts wsC_X5 tyX5 tyX5_ok nmX5 hown hK hW i (gup_s _ _ _ _) rfl 3 (by decide) (hts _ lC_X5_19) (fun x h => h) rfl hnm rfl (by decide +kernel) rfl rfl (show 3 < 5 by decide) dX5_init_22 (fun H locs hW => ?_)
  rw [gup_gup] at hW
  refine lv_aload_n hx hb dX5_init_25 rfl (lv_at hl 0 rfl) ?_
  refine lv_iload hx hb dX5_init_26 (lv_at hl 5 rfl) ?_
  refine g_putF (ref := RX5) (T := TX5) (N := 5) (ci := 6) (ty := tyX5 4) (v := .int (iI (k))) hx hb hts wsC_X5 tyX5 tyX5_ok nmX5 hown hK hW i (gup_s _ _ _ _) rfl 4 (by decide) (hts _ lC_X5_23) (fun x h => h) rfl hnm rfl (by decide +kernel) rfl rfl (show 4 < 5 by decide) dX5_init_28 (fun H locs hW => ?_)
  rw [gup_gup] at hW
  exact g_vret hx hb hr hW ⟨rfl, rfl⟩ dX5_init_31 hlk
set_option maxHeartbeats 4000000 in
set_option maxRecDepth 100000 in
theorem c_X10_init {l : Launch} {D : va_G} {cy : Nat → ClassId} {B0 : Nat} {f : gF} {i a : Nat} (b : Int) (u : Int) (c : Int) (v : Int)  (hi : f i = some (a, .inr (11, [.int (iI 0), .int (iI 0), .int (iI 0), .int (iI 0), .int (iI 0), .int (iI 0), .int (iI 0), .int (iI 0), .int (iI 0)]))) : gM l yX10_init vX10_init 1 24 D cy B0 [.ref (a), .int (iI (b)), .int (iI (u)), .int (iI (c)), .int (iI (v))] (f) (fun r g_ => r = none ∧ g_ = gup f i a (.inr (11, [.int (iI b), .int (iI u), .int (iI c), .int (iI v), .int (iI 0), .int (iI 0), .int (iI 0), .int (iI 0), .int (iI 0)]))) 0 0 := by
  refine g_start (cc := cX10_init) (maxL := 5) (ret := none) (by decide) rfl (Nat.le_of_ble_eq_true rfl) ?_
  intro p_ e_ s_ m_ be_ me_ co_ ls H locs K hr hlk hnm hK hW hl
  obtain ⟨hx, hb, hml, hown, hts⟩ := id K
  have hl : lv_has ls 5 [(0, .ref (a)), (1, .int (iI (b))), (2, .int (iI (u))), (3, .int (iI (c))), (4, .int (iI (v)))] := hl
  refine lv_aload_n hx hb dX10_init_0 rfl (lv_at hl 0 rfl) ?_
  refine W.objInit hx hb hown (hts _ (wsC_sub _ wsCw_320)) (hts _ (wsC_sub _ wsCw_1)) (hts _ (wsC_sub _ wsCw_2)) rfl (by rw [hml]; exact hl.1) rfl dX10_init_1 (Nat.le_of_ble_eq_true rfl) (Nat.le_of_ble_eq_true rfl) ?_
  refine W.eq (g2 := F0 m_ 4 ls []) rfl ?_
  refine lv_aload_n hx hb dX10_init_4 rfl (lv_at hl 0 rfl) ?_
  refine lv_iload_n hx hb dX10_init_5 rfl (lv_at hl 1 rfl) ?_
  refine g_putF (ref := RX10) (T := TX10) (N := 9) (ci := 11) (ty := tyX10 0) (v := .int (iI (b))) hx hb hts wsC_X10 tyX10 tyX10_ok nmX10 hown hK hW i hi rfl 0 (by decide) (hts _ lC_X10_7) (fun x h => h) rfl hnm rfl (by decide +kernel) rfl rfl (show 0 < 9 by decide) dX10_init_6 (fun H locs hW => ?_)
  refine lv_aload_n hx hb dX10_init_9 rfl (lv_at hl 0 rfl) ?_
  refine lv_iload_n hx hb dX10_init_10 rfl (lv_at hl 2 rfl) ?_
  refine g_putF (ref := RX10) (T := TX10) (N := 9) (ci := 11) (ty := tyX10 1) (v := .int (iI (u))) hx hb hts wsC_X10 tyX10 tyX10_ok nmX10 hown hK hW i (gup_s _ _ _ _) rfl 1 (by decide) (hts _ lC_X10_13) (fun x h => h) rfl hnm rfl (by decide +kernel) rfl rfl (show 1 < 9 by decide) dX10_init_11 (fun H locs hW => ?_)
  rw [gup_gup] at hW
  refine lv_aload_n hx hb dX10_init_14 rfl (lv_at hl 0 rfl) ?_
  refine lv_iload_n hx hb dX10_init_15 rfl (lv_at hl 3 rfl) ?_
  refine g_putF (ref := RX10) (T := TX10) (N := 9) (ci := 11) (ty := tyX10 2) (v := .int (iI (c))) hx hb hts wsC_X10 tyX10 tyX10_ok nmX10 hown hK hW i (gup_s _ _ _ _) rfl 2 (by decide) (hts _ lC_X10_16) (fun x h => h) rfl hnm rfl (by decide +kernel) rfl rfl (show 2 < 9 by decide) dX10_init_16 (fun H locs hW => ?_)
  rw [gup_gup] at hW
  refine lv_aload_n hx hb dX10_init_19 rfl (lv_at hl 0 rfl) ?_
  refine lv_iload hx hb dX10_init_20 (lv_at hl 4 rfl) ?_
  refine g_putF (ref := RX10) (T := TX10) (N := 9) (ci := 11) (ty := tyX10 3) (v := .int (iI (v))) hx hb hts wsC_X10 tyX10 tyX10_ok nmX10 hown hK hW i (gup_s _ _ _ _) rfl 3 (by decide) (hts _ lC_X10_19) (fun x h => h) rfl hnm rfl (by decide +kernel) rfl rfl (show 3 < 9 by decide) dX10_init_22 (fun H locs hW => ?_)
  rw [gup_gup] at hW
  exact g_vret hx hb hr hW ⟨rfl, rfl⟩ dX10_init_25 hlk
set_option maxHeartbeats 4000000 in
set_option maxRecDepth 100000 in
theorem c_X7_init {l : Launch} {D : va_G} {cy : Nat → ClassId} {B0 : Nat} {f : gF} {i a : Nat} (k : Int) (t : Nat) (hi : f i = some (a, .inr (8, [.int (iI 0), .null, .int (iI 0), .null, .int (iI 0), .int (iI 0), .int (iI 0), .int (iI 0), .int (iI 0)]))) : gM l yX7_init vX7_init 1 24 D cy B0 [.ref (a), .int (iI (k)), .ref (t)] (f) (fun r g_ => r = none ∧ g_ = gup f i a (.inr (8, [.int (iI k), .ref t, .int (iI 0), .null, .int (iI (-1)), .int (iI 0), .int (iI (-1)), .int (iI (-1)), .int (iI 0)]))) 0 0 := by
  refine g_start (cc := cX7_init) (maxL := 3) (ret := none) (by decide) rfl (Nat.le_of_ble_eq_true rfl) ?_
  intro p_ e_ s_ m_ be_ me_ co_ ls H locs K hr hlk hnm hK hW hl
  obtain ⟨hx, hb, hml, hown, hts⟩ := id K
  have hl : lv_has ls 3 [(0, .ref (a)), (1, .int (iI (k))), (2, .ref (t))] := hl
  refine lv_aload_n hx hb dX7_init_0 rfl (lv_at hl 0 rfl) ?_
  refine W.objInit hx hb hown (hts _ (wsC_sub _ wsCw_282)) (hts _ (wsC_sub _ wsCw_1)) (hts _ (wsC_sub _ wsCw_2)) rfl (by rw [hml]; exact hl.1) rfl dX7_init_1 (Nat.le_of_ble_eq_true rfl) (Nat.le_of_ble_eq_true rfl) ?_
  refine W.eq (g2 := F0 m_ 4 ls []) rfl ?_
  refine lv_aload_n hx hb dX7_init_4 rfl (lv_at hl 0 rfl) ?_
  refine xi_iconst hx hb dX7_init_5 ?_
  refine g_put (ref := RX7) (T := TX7) (N := 9) (ci := 8) (ty := tyX7 2) (v := .int (iI (0))) hx hb hts wsC_X7 tyX7 tyX7_ok nmX7 hown hK hW i hi rfl 2 (by decide) (hts _ lC_X7_9) (fun x h => h) rfl (by decide +kernel) rfl rfl (show 2 < 9 by decide) dX7_init_6 (fun H locs hW => ?_)
  refine lv_aload_n hx hb dX7_init_9 rfl (lv_at hl 0 rfl) ?_
  refine xi_iconst hx hb dX7_init_10 ?_
  refine g_put (ref := RX7) (T := TX7) (N := 9) (ci := 8) (ty := tyX7 4) (v := .int (iI ((-1)))) hx hb hts wsC_X7 tyX7 tyX7_ok nmX7 hown hK hW i (gup_s _ _ _ _) rfl 4 (by decide) (hts _ lC_X7_15) (fun x h => h) rfl (by decide +kernel) rfl rfl (show 4 < 9 by decide) dX7_init_11 (fun H locs hW => ?_)
  rw [gup_gup] at hW
  refine lv_aload_n hx hb dX7_init_14 rfl (lv_at hl 0 rfl) ?_
  refine xi_iconst hx hb dX7_init_15 ?_
  refine g_put (ref := RX7) (T := TX7) (N := 9) (ci := 8) (ty := tyX7 6) (v := .int (iI ((-1)))) hx hb hts wsC_X7 tyX7 tyX7_ok nmX7 hown hK hW i (gup_s _ _ _ _) rfl 6 (by decide) (hts _ lC_X7_18) (fun x h => h) rfl (by decide +kernel) rfl rfl (show 6 < 9 by decide) dX7_init_16 (fun H locs hW => ?_)
  rw [gup_gup] at hW
  refine lv_aload_n hx hb dX7_init_19 rfl (lv_at hl 0 rfl) ?_
  refine xi_iconst hx hb dX7_init_20 ?_
  refine g_put (ref := RX7) (T := TX7) (N := 9) (ci := 8) (ty := tyX7 7) (v := .int (iI ((-1)))) hx hb hts wsC_X7 tyX7 tyX7_ok nmX7 hown hK hW i (gup_s _ _ _ _) rfl 7 (by decide) (hts _ lC_X7_21) (fun x h => h) rfl (by decide +kernel) rfl rfl (show 7 < 9 by decide) dX7_init_21 (fun H locs hW => ?_)
  rw [gup_gup] at hW
  refine lv_aload_n hx hb dX7_init_24 rfl (lv_at hl 0 rfl) ?_
  refine lv_iload_n hx hb dX7_init_25 rfl (lv_at hl 1 rfl) ?_
  refine g_putF (ref := RX7) (T := TX7) (N := 9) (ci := 8) (ty := tyX7 0) (v := .int (iI (k))) hx hb hts wsC_X7 tyX7 tyX7_ok nmX7 hown hK hW i (gup_s _ _ _ _) rfl 0 (by decide) (hts _ lC_X7_24) (fun x h => h) rfl hnm rfl (by decide +kernel) rfl rfl (show 0 < 9 by decide) dX7_init_26 (fun H locs hW => ?_)
  rw [gup_gup] at hW
  refine lv_aload_n hx hb dX7_init_29 rfl (lv_at hl 0 rfl) ?_
  refine lv_aload_n hx hb dX7_init_30 rfl (lv_at hl 2 rfl) ?_
  refine g_putF (ref := RX7) (T := TX7) (N := 9) (ci := 8) (ty := tyX7 1) (v := .ref (t)) hx hb hts wsC_X7 tyX7 tyX7_ok nmX7 hown hK hW i (gup_s _ _ _ _) rfl 1 (by decide) (hts _ lC_X7_27) (fun x h => h) rfl hnm rfl (by decide +kernel) rfl rfl (show 1 < 9 by decide) dX7_init_31 (fun H locs hW => ?_)
  rw [gup_gup] at hW
  exact g_vret hx hb hr hW ⟨rfl, rfl⟩ dX7_init_34 hlk
set_option maxHeartbeats 4000000 in
set_option maxRecDepth 100000 in
theorem c_X10_arrange {l : Launch} {D : va_G} {cy : Nat → ClassId} {B0 : Nat} {f : gF} {i a : Nat} {x0 x1 x2 x3 : Int} (nm : Int) (h : Int) (rl : Bool) (d : Int) (st : Bool)  (hi : f i = some (a, .inr (11, [.int (iI x0), .int (iI x1), .int (iI x2), .int (iI x3), .int (iI 0), .int (iI 0), .int (iI 0), .int (iI 0), .int (iI 0)]))) : gM l yX10_arrange vX10_arrange 0 0 D cy B0 [.ref (a), .int (iI (nm)), .int (iI (h)), .int (iI (bI (rl))), .int (iI (d)), .int (iI (bI (st)))] (f) (fun r g_ => r = none ∧ g_ = gup f i a (.inr (11, [.int (iI x0), .int (iI x1), .int (iI x2), .int (iI x3), .int (iI nm), .int (iI h), .int (iI (bI rl)), .int (iI d), .int (iI (bI st))]))) 0 0 := by
  refine g_start (cc := cX10_arrange) (maxL := 6) (ret := none) (by decide) rfl (Nat.le_of_ble_eq_true rfl) ?_
  intro p_ e_ s_ m_ be_ me_ co_ ls H locs K hr hlk hnm hK hW hl
  obtain ⟨hx, hb, hml, hown, hts⟩ := id K
  have hl : lv_has ls 6 [(0, .ref (a)), (1, .int (iI (nm))), (2, .int (iI (h))), (3, .int (iI (bI (rl)))), (4, .int (iI (d))), (5, .int (iI (bI (st))))] := hl
  refine lv_aload_n hx hb dX10_arrange_0 rfl (lv_at hl 0 rfl) ?_
  refine lv_iload_n hx hb dX10_arrange_1 rfl (lv_at hl 1 rfl) ?_
  refine g_put (ref := RX10) (T := TX10) (N := 9) (ci := 11) (ty := tyX10 4) (v := .int (iI (nm))) hx hb hts wsC_X10 tyX10 tyX10_ok nmX10 hown hK hW i hi rfl 4 (by decide) (hts _ lC_X10_22) (fun x h => h) rfl (by decide +kernel) rfl rfl (show 4 < 9 by decide) dX10_arrange_2 (fun H locs hW => ?_)
  refine lv_aload_n hx hb dX10_arrange_5 rfl (lv_at hl 0 rfl) ?_
  refine lv_iload_n hx hb dX10_arrange_6 rfl (lv_at hl 2 rfl) ?_
  refine g_put (ref := RX10) (T := TX10) (N := 9) (ci := 11) (ty := tyX10 5) (v := .int (iI (h))) hx hb hts wsC_X10 tyX10 tyX10_ok nmX10 hown hK hW i (gup_s _ _ _ _) rfl 5 (by decide) (hts _ lC_X10_25) (fun x h => h) rfl (by decide +kernel) rfl rfl (show 5 < 9 by decide) dX10_arrange_7 (fun H locs hW => ?_)
  rw [gup_gup] at hW
  refine lv_aload_n hx hb dX10_arrange_10 rfl (lv_at hl 0 rfl) ?_
  refine lv_iload_n hx hb dX10_arrange_11 rfl (lv_at hl 3 rfl) ?_
  refine g_put (ref := RX10) (T := TX10) (N := 9) (ci := 11) (ty := tyX10 6) (v := .int (iI (bI (rl)))) hx hb hts wsC_X10 tyX10 tyX10_ok nmX10 hown hK hW i (gup_s _ _ _ _) rfl 6 (by decide) (hts _ lC_X10_28) (fun x h => h) rfl (by decide +kernel) (iI_narz (bI_01 _)) (iI_fitz (bI_01 _)) (show 6 < 9 by decide) dX10_arrange_12 (fun H locs hW => ?_)
  rw [gup_gup] at hW
  refine lv_aload_n hx hb dX10_arrange_15 rfl (lv_at hl 0 rfl) ?_
  refine lv_iload hx hb dX10_arrange_16 (lv_at hl 4 rfl) ?_
  refine g_put (ref := RX10) (T := TX10) (N := 9) (ci := 11) (ty := tyX10 7) (v := .int (iI (d))) hx hb hts wsC_X10 tyX10 tyX10_ok nmX10 hown hK hW i (gup_s _ _ _ _) rfl 7 (by decide) (hts _ lC_X10_32) (fun x h => h) rfl (by decide +kernel) rfl rfl (show 7 < 9 by decide) dX10_arrange_18 (fun H locs hW => ?_)
  rw [gup_gup] at hW
  refine lv_aload_n hx hb dX10_arrange_21 rfl (lv_at hl 0 rfl) ?_
  refine lv_iload hx hb dX10_arrange_22 (lv_at hl 5 rfl) ?_
  refine g_put (ref := RX10) (T := TX10) (N := 9) (ci := 11) (ty := tyX10 8) (v := .int (iI (bI (st)))) hx hb hts wsC_X10 tyX10 tyX10_ok nmX10 hown hK hW i (gup_s _ _ _ _) rfl 8 (by decide) (hts _ lC_X10_35) (fun x h => h) rfl (by decide +kernel) (iI_narz (bI_01 _)) (iI_fitz (bI_01 _)) (show 8 < 9 by decide) dX10_arrange_24 (fun H locs hW => ?_)
  rw [gup_gup] at hW
  exact g_vret hx hb hr hW ⟨rfl, rfl⟩ dX10_arrange_27 hlk
