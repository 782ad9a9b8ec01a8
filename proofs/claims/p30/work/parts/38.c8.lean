section XM
variable {p : Program} {l : Launch} {e : Env} {R : Room} {s : State} {m : MethodId} {args : Array Value} {below : List Frame} {meth : Method} {c : Code} {H : Heap} {locs : List Loc} {cells slots : Nat} {Q : State → Prop}
variable {cc : ByteArray} {pc : Nat} {ls : Array Slot} {rest : List Value} {ad bk : Nat → Nat} {k : Int}
theorem xp_un (h : k ≠ -1) (kk : W p l e R s m args below meth c H locs cells slots Q (F0 m pc ls (pR ad k :: rest))) : W p l e R s m args below meth c H locs cells slots Q (F0 m pc ls (.ref (ad (1000 + 2 * k.toNat)) :: rest)) := by
  rw [pR_r ad h] at kk; exact kk
theorem xp_nul (kk : W p l e R s m args below meth c H locs cells slots Q (F0 m pc ls (pR ad (-1) :: rest))) : W p l e R s m args below meth c H locs cells slots Q (F0 m pc ls (.null :: rest)) := kk
theorem iI_min {x y : Int} (hx : rI x) (hy : rI y) : (if iI y < iI x then iI y else iI x) = iI (if y < x then y else x) := by
  by_cases h : y < x
  · rw [if_pos h, if_pos ((iI_lt hy hx).mpr h)]
  · rw [if_neg h, if_neg (fun h2 => h ((iI_lt hy hx).mp h2))]
theorem l_max {x y : Int} (hx : rI x) (hy : rI y) : (if Int64.ofInt y < Int64.ofInt x then Int64.ofInt x else Int64.ofInt y) = Int64.ofInt (if y < x then x else y) := by
  have key : Int64.ofInt y < Int64.ofInt x ↔ y < x := by
    rw [Int64.lt_iff_toInt_lt, Int64.toInt_ofInt_of_le (by have := hy.1; omega) (by have := hy.2; omega), Int64.toInt_ofInt_of_le (by have := hx.1; omega) (by have := hx.2; omega)]
  by_cases h : y < x
  · rw [if_pos h, if_pos (key.mpr h)]
  · rw [if_neg h, if_neg (fun h2 => h (key.mp h2))]
theorem l_lt {x y : Int} (hx : rI x) (hy : rI y) : Int64.ofInt x < Int64.ofInt y ↔ x < y := by
  rw [Int64.lt_iff_toInt_lt, Int64.toInt_ofInt_of_le (by have := hx.1; omega) (by have := hx.2; omega), Int64.toInt_ofInt_of_le (by have := hy.1; omega) (by have := hy.2; omega)]
theorem l_le {x y : Int} (hx : rI x) (hy : rI y) : Int64.ofInt x ≤ Int64.ofInt y ↔ x ≤ y := by
  rw [Int64.le_iff_toInt_le, Int64.toInt_ofInt_of_le (by have := hx.1; omega) (by have := hx.2; omega), Int64.toInt_ofInt_of_le (by have := hy.1; omega) (by have := hy.2; omega)]
theorem cat_i (x : Int32) : (Value.int x).category = 1 := rfl
theorem cat_l (x : Int64) : (Value.long x).category = 2 := rfl
theorem cat_r (a : Nat) : (Value.ref a).category = 1 := rfl
theorem cat_n : Value.null.category = 1 := rfl
theorem pR_cat (ad : Nat → Nat) (k : Int) : (pR ad k).category = 1 := by
  unfold pR
  split <;> rfl
end XM
def kNxB (S : ST) (b c u k x : Int) : Int := if ((decide (S.1 18 k = 2) && decide (S.1 11 k = c)) && decide (S.1 9 k = b) && (decide (u = -1) || kBeh S k u) && (decide (x = -1) || kBeh S x k)) = true then k else x
def kNx (S : ST) (b c u : Int) (n : Nat) : Int := foS (kNxB S b c u) (-1) n
theorem kNx_r (S : ST) (b c u : Int) : ∀ n : Nat, -1 ≤ kNx S b c u n ∧ kNx S b c u n < n
  | 0 => by show -1 ≤ (-1 : Int) ∧ (-1 : Int) < 0; omega
  | n + 1 => by
    have ih := kNx_r S b c u n
    show -1 ≤ kNxB S b c u n (kNx S b c u n) ∧ kNxB S b c u n (kNx S b c u n) < ((n + 1 : Nat) : Int)
    unfold kNxB
    split <;> omega
theorem kNx_s (S : ST) (b c u : Int) (n : Nat) : kNx S b c u (n + 1) = kNxB S b c u n (kNx S b c u n) := rfl
set_option maxHeartbeats 4000000 in
set_option maxRecDepth 100000 in
theorem c_X8_nextQueued {l : Launch} {D : va_G} {cy : Nat → ClassId} {B0 : Nat} {ad bk : Nat → Nat} {S : ST} {I : Int → Bool} {cX qX : Int → Int64} {G : gF} (b : Int) (c : Int) (u : Int) (hwf : wf S) (hb0 : 0 ≤ b ∧ b ≤ 5)(hc : 0 ≤ c ∧ c ≤ 2) (hu : u = -1 ∨ (0 ≤ u ∧ u < S.1 8 0)) : gM l yX8_nextQueued vX8_nextQueued 4 88 D cy B0 [.ref (ad 5), .int (iI (b)), .int (iI (c)), pR ad (u)] (kW cy ad bk S (I, cX, qX) G) (fun r g_ => r = some (pR ad (kNx S b c u (nP S))) ∧ g_ = kW cy ad bk S (I, cX, qX) G) 0 0 := by
  refine g_start (cc := cX8_nextQueued) (maxL := 7) (ret := (some (.object "MillstreamPayments$Payment"))) (by decide) rfl (by simp [lg_sl, pR_cat, cat_i, cat_l, cat_r, cat_n]) ?_
  intro p_ e_ s_ m_ be_ me_ co_ ls H locs K hr hlk hnm hK hW hl
  obtain ⟨hx, hb, hml, hown, hts⟩ := id K
  have hl : lv_has ls 7 [(0, .ref (ad 5)), (1, .int (iI (b))), (2, .int (iI (c))), (3, pR ad (u))] := hl
  have h80 := wf_8 hwf 0
  refine lv_null hx hb dX8_nextQueued_0 ?_
  refine xp_nul (ad := ad) ?_
  refine xp_astore (lv' := [(4, pR ad ((-1))), (0, .ref (ad 5)), (1, .int (iI (b))), (2, .int (iI (c))), (3, pR ad (u))]) hx hb dX8_nextQueued_1 hl (by decide) (by simp [pR_cat, cat_i, cat_l, cat_r, cat_n]) (fun ls hl => ?_)
  refine xi_iconst hx hb dX8_nextQueued_3 ?_
  refine lv_istore (lv' := [(5, .int (iI (0))), (4, pR ad ((-1))), (0, .ref (ad 5)), (1, .int (iI (b))), (2, .int (iI (c))), (3, pR ad (u))]) hx hb dX8_nextQueued_4 hl (by decide) (by simp [pR_cat, cat_i, cat_l, cat_r, cat_n]) (fun ls hl => ?_)
  refine lp_w2 (Wg := fun (H : Heap) (locs : List Loc) (ls : Array Slot) => W p_ l e_ { frames := 4, cells := 0, slots := 0, locals := 88 } s_ m_ ([.ref (ad 5), .int (iI (b)), .int (iI (c)), pR ad (u)] : List Value).toArray be_ me_ co_ H locs 0 0 (MQ be_ (gQ D B0 (fun (r : Option Value) (g_ : gF) => r = some (pR ad (kNx S b c u (nP S))) ∧ g_ = kW cy ad bk S (I, cX, qX) G)) ([.ref (ad 5), .int (iI (b)), .int (iI (c)), pR ad (u)] : List Value).toArray s_ 0 0 (fun q : Nat => B0 ≤ q)) (F0 m_ 6 ls [])) (fun (k : Int) (y : Int) (H : Heap) (locs : List Loc) (ls : Array Slot) => ((0 ≤ k ∧ k ≤ S.1 8 0) ∧ y = kNx S b c u k.toNat) ∧ gW D B0 s_ (kW cy ad bk S (I, cX, qX) G) H locs ∧ lv_has ls 7 [(5, .int (iI (k))), (4, pR ad (y)), (3, pR ad (u)), (2, .int (iI (c))), (1, .int (iI (b))), (0, .ref (ad 5))]) (fun (k : Int) (y : Int) => (60 - k).toNat) (fun k y H locs ls hI ih_lp_1 => ?_) (0) ((-1)) _ _ _ ⟨⟨⟨by decide, by omega⟩, rfl⟩, hW, lv_sub hl [0, 1, 5, 4, 3, 2] rfl⟩
  obtain ⟨hI_lp_1, hW, hl⟩ := hI
  obtain ⟨hk, hy⟩ := hI_lp_1
  have hyr := kNx_r S b c u k.toNat
  rw [← hy] at hyr
  have h8 := wf_8 hwf 0
  refine lv_iload hx hb dX8_nextQueued_6 (lv_at hl 0 rfl) ?_
  refine lv_aload_n hx hb dX8_nextQueued_8 rfl (lv_at hl 5 rfl) ?_
  refine g_get (ref := RX8) (T := TX8) (N := 2) (ci := 9) hx hb hts wsC_X8 hown hK hW (100000 + 5) (kW_at rfl) rfl 0 (by decide) (hts _ lC_X8_12) (fun x h => h) (v := .ref (ad 9)) rfl dX8_nextQueued_9 ?_
  refine g_callV (i := 100000 + 9) (As := []) (rest := [.int (iI (k))]) K (c_Jx4a65c_size_8abf5 (i := 100000 + 9) (j := 0) (n := 0) (g := fun _ => none) (kW_at rfl)) (cwV 0 hts gC_X8_33 rfl rfl rfl (by decide +kernel) ⟨Nat.le_of_ble_eq_true rfl, Nat.le_of_ble_eq_true rfl⟩) hK hW (kW_at rfl) rfl rfl hl.1 rfl (Nat.le_of_ble_eq_true rfl) dX8_nextQueued_12 ⟨Nat.le_refl _, Nat.le_refl _⟩ (fun v_ f_ H locs hp hW => ?_)
  obtain ⟨hpv, hpe⟩ := hp
  rw [hpe] at hW
  have hpv : v_ = some (.int (iI (S.1 8 (0)))) := hpv
  subst hpv
  have w_2 := wf_8 hwf 0
  refine xi_icmp_ge (tgt := 92) hx hb ⟨by omega, by omega⟩ ⟨by omega, by omega⟩ dX8_nextQueued_15 (by decide) (fun c_3 => ?_) (fun c_3 => ?_)
  · refine xp_aload hx hb dX8_nextQueued_92 (lv_at hl 1 rfl) ?_
    exact g_aret hx hb hr (pR_or _ _) hW ⟨by rw [hy, show k.toNat = nP S by unfold nP; omega], rfl⟩ dX8_nextQueued_94 hlk
  · refine lv_aload_n hx hb dX8_nextQueued_18 rfl (lv_at hl 5 rfl) ?_
    refine g_get (ref := RX8) (T := TX8) (N := 2) (ci := 9) hx hb hts wsC_X8 hown hK hW (100000 + 5) (kW_at rfl) rfl 0 (by decide) (hts _ lC_X8_12) (fun x h => h) (v := .ref (ad 9)) rfl dX8_nextQueued_19 ?_
    refine lv_iload hx hb dX8_nextQueued_22 (lv_at hl 0 rfl) ?_
    refine g_callV (i := 100000 + 9) (As := [.int (iI (k))]) (rest := []) K (c_Jx4a65c_get_915e3 (i := 100000 + 9) (j := 100000 + 11) (k) (kW_at rfl) (kW_at (kC_l11 ((kls hwf).2.2 (show 0 < S.1 8 0 by omega)))) (kls hwf).1 (kls hwf).2.1 (show 0 ≤ (k) ∧ (k) < S.1 8 0 from ⟨by omega, by omega⟩)) (cwV 1 hts gC_X8_37 rfl rfl rfl (by decide +kernel) ⟨Nat.le_of_ble_eq_true rfl, Nat.le_of_ble_eq_true rfl⟩) hK hW (kW_at rfl) rfl rfl hl.1 rfl (Nat.le_of_ble_eq_true rfl) dX8_nextQueued_24 ⟨Nat.le_refl _, Nat.le_refl _⟩ (fun v_ f_ H locs hp hW => ?_)
    obtain ⟨hpv, hpe⟩ := hp
    rw [hpe] at hW
    have hpv : v_ = some (.ref (ad (1000 + 2 * (k).toNat))) := hpv.trans (congrArg some (lsP_at (S := S) (by omega) (show (k) < S.1 8 0 by omega)))
    subst hpv
    refine va_castS hx hb hown (hts _ hC_X8_41) (hK.1.1 8 _ rfl).2 (va_recv (q0 := 0) hK.1 (hW.1.one (kW_at (kC_pay hwf (by omega) (show (k) < S.1 8 0 from by omega)))) rfl rfl) dX8_nextQueued_27 ?_
    refine lv_astore (lv' := [(6, .ref (ad (1000 + 2 * (k).toNat))), (5, .int (iI (k))), (4, pR ad (y)), (3, pR ad (u)), (2, .int (iI (c))), (1, .int (iI (b))), (0, .ref (ad 5))]) hx hb dX8_nextQueued_30 hl (by decide) (by simp [pR_cat, cat_i, cat_l, cat_r, cat_n]) (fun ls hl => ?_)
    refine lv_aload hx hb dX8_nextQueued_32 (lv_at hl 0 rfl) ?_
    refine xi_iconst hx hb dX8_nextQueued_34 ?_
    refine lv_iload_n hx hb dX8_nextQueued_35 rfl (lv_at hl 4 rfl) ?_
    refine g_callV (i := 100000 + (1000 + 2 * (k).toNat)) (As := [.int (iI (2)), .int (iI (c))]) (rest := []) K (c_X7_isIn (k) (2) (c) hwf (by omega) (by omega) ⟨by omega, by omega⟩ ⟨by omega, by omega⟩) (cwV 2 hts gC_X8_62 rfl rfl rfl (by decide +kernel) ⟨Nat.le_of_ble_eq_true rfl, Nat.le_of_ble_eq_true rfl⟩) hK hW (kW_at (kC_pay hwf (by omega) (show (k) < S.1 8 0 from by omega))) rfl rfl hl.1 rfl (Nat.le_of_ble_eq_true rfl) dX8_nextQueued_36 ⟨Nat.le_refl _, Nat.le_refl _⟩ (fun v_ f_ H locs hp hW => ?_)
    obtain ⟨hpv, hpe⟩ := hp
    rw [hpe] at hW
    have hpv : v_ = some (.int (iI (bI (decide (S.1 18 k = 2) && decide (S.1 11 k = c))))) := hpv
    subst hpv
    refine xi_ifb_eq (tgt := 86) hx hb dX8_nextQueued_39 (by decide) (fun c_4 => ?_) (fun c_4 => ?_)
    · refine xi_iinc (lv' := [(5, .int (iI (k + 1))), (6, .ref (ad (1000 + 2 * (k).toNat))), (4, pR ad (y)), (3, pR ad (u)), (2, .int (iI (c))), (1, .int (iI (b))), (0, .ref (ad 5))]) hx hb dX8_nextQueued_86 hl (k := 1) rfl (by decide) (by simp [pR_cat, cat_i, cat_l, cat_r, cat_n]) (fun ls hl => ?_)
      refine lv_goto (tgt := 6) hx hb dX8_nextQueued_89 (by decide) ?_
      have hnb : kNxB S b c u k y = y := by simp only [kNxB, c_4, decide_true, decide_false, Bool.true_and, Bool.and_true, Bool.false_and, Bool.and_false, Bool.true_or, Bool.or_true, Bool.false_or, Bool.or_false, Bool.not_true, Bool.not_false, eq_self, if_true, if_false, ite_true, ite_false, Bool.false_eq_true, reduceCtorEq, not_false_eq_true]
      exact ih_lp_1 (k + 1) (y) _ _ _ (by first | omega | (dsimp only; omega)) ⟨⟨⟨by omega, by omega⟩, by rw [show (k + 1).toNat = k.toNat + 1 by omega, kNx_s, show ((k.toNat : Nat) : Int) = k by omega, ← hy, hnb]⟩, hW, lv_sub hl [0, 2, 3, 4, 5, 6] rfl⟩
    · refine lv_aload hx hb dX8_nextQueued_42 (lv_at hl 0 rfl) ?_
      refine g_get (ref := RX7) (T := TX7) (N := 9) (ci := 8) hx hb hts wsC_X7 hown hK hW (100000 + (1000 + 2 * (k).toNat)) (kW_at (kC_pay hwf (by omega) (show (k) < S.1 8 0 from by omega))) rfl 1 (by decide) (hts _ lC_X8_66) (fun x h => h) (v := .ref (ad (1001 + 2 * (k).toNat))) rfl dX8_nextQueued_44 ?_
      refine g_get (ref := RX10) (T := TX10) (N := 9) (ci := 11) hx hb hts wsC_X10 hown hK hW (100000 + (1001 + 2 * (k).toNat)) (kW_at (kC_trm hwf (by omega) (show (k) < S.1 8 0 from by omega))) rfl 0 (by decide) (hts _ lC_X8_70) (fun x h => h) (v := .int (iI (S.1 9 (k)))) rfl dX8_nextQueued_47 ?_
      have w_5 := wf_9 hwf (k)
      refine lv_iload_n hx hb dX8_nextQueued_50 rfl (lv_at hl 5 rfl) ?_
      refine xi_icmp_ne (tgt := 86) hx hb ⟨by omega, by omega⟩ ⟨by omega, by omega⟩ dX8_nextQueued_51 (by decide) (fun c_6 => ?_) (fun c_6 => ?_)
      · refine xi_iinc (lv' := [(5, .int (iI (k + 1))), (6, .ref (ad (1000 + 2 * (k).toNat))), (4, pR ad (y)), (3, pR ad (u)), (2, .int (iI (c))), (1, .int (iI (b))), (0, .ref (ad 5))]) hx hb dX8_nextQueued_86 hl (k := 1) rfl (by decide) (by simp [pR_cat, cat_i, cat_l, cat_r, cat_n]) (fun ls hl => ?_)
        refine lv_goto (tgt := 6) hx hb dX8_nextQueued_89 (by decide) ?_
        have hnb : kNxB S b c u k y = y := by simp only [kNxB, c_4, c_6, decide_true, decide_false, Bool.true_and, Bool.and_true, Bool.false_and, Bool.and_false, Bool.true_or, Bool.or_true, Bool.false_or, Bool.or_false, Bool.not_true, Bool.not_false, eq_self, if_true, if_false, ite_true, ite_false, Bool.false_eq_true, reduceCtorEq, not_false_eq_true]
        exact ih_lp_1 (k + 1) (y) _ _ _ (by first | omega | (dsimp only; omega)) ⟨⟨⟨by omega, by omega⟩, by rw [show (k + 1).toNat = k.toNat + 1 by omega, kNx_s, show ((k.toNat : Nat) : Int) = k by omega, ← hy, hnb]⟩, hW, lv_sub hl [0, 2, 3, 4, 5, 6] rfl⟩
      · refine xp_aload_n hx hb dX8_nextQueued_54 rfl (lv_at hl 3 rfl) ?_
        refine xp_ifnull (tgt := 67) hx hb dX8_nextQueued_55 (by decide) (fun c_7 => ?_) (fun c_7 => ?_)
        · refine xp_aload hx hb dX8_nextQueued_67 (lv_at hl 2 rfl) ?_
          refine xp_ifnull (tgt := 82) hx hb dX8_nextQueued_69 (by decide) (fun c_8 => ?_) (fun c_8 => ?_)
          · refine lv_aload hx hb dX8_nextQueued_82 (lv_at hl 0 rfl) ?_
            refine xp_un (k := k) (by omega) ?_
            refine xp_astore (lv' := [(4, pR ad (k)), (6, .ref (ad (1000 + 2 * (k).toNat))), (5, .int (iI (k))), (3, pR ad (u)), (2, .int (iI (c))), (1, .int (iI (b))), (0, .ref (ad 5))]) hx hb dX8_nextQueued_84 hl (by decide) (by simp [pR_cat, cat_i, cat_l, cat_r, cat_n]) (fun ls hl => ?_)
            refine xi_iinc (lv' := [(5, .int (iI (k + 1))), (4, pR ad (k)), (6, .ref (ad (1000 + 2 * (k).toNat))), (3, pR ad (u)), (2, .int (iI (c))), (1, .int (iI (b))), (0, .ref (ad 5))]) hx hb dX8_nextQueued_86 hl (k := 2) rfl (by decide) (by simp [pR_cat, cat_i, cat_l, cat_r, cat_n]) (fun ls hl => ?_)
            refine lv_goto (tgt := 6) hx hb dX8_nextQueued_89 (by decide) ?_
            have hnb : kNxB S b c u k y = k := by simp only [kNxB, c_4, c_6, c_7, c_8, decide_true, decide_false, Bool.true_and, Bool.and_true, Bool.false_and, Bool.and_false, Bool.true_or, Bool.or_true, Bool.false_or, Bool.or_false, Bool.not_true, Bool.not_false, eq_self, if_true, if_false, ite_true, ite_false, Bool.false_eq_true, reduceCtorEq, not_false_eq_true]
            exact ih_lp_1 (k + 1) (k) _ _ _ (by first | omega | (dsimp only; omega)) ⟨⟨⟨by omega, by omega⟩, by rw [show (k + 1).toNat = k.toNat + 1 by omega, kNx_s, show ((k.toNat : Nat) : Int) = k by omega, ← hy, hnb]⟩, hW, lv_sub hl [0, 1, 3, 4, 5, 6] rfl⟩
          · refine xp_aload hx hb dX8_nextQueued_72 (lv_at hl 2 rfl) ?_
            refine xp_ref (k := y) (by omega) ?_
            refine lv_aload hx hb dX8_nextQueued_74 (lv_at hl 0 rfl) ?_
            refine g_callV (i := 100000 + (1000 + 2 * (y).toNat)) (As := [.ref (ad (1000 + 2 * (k).toNat))]) (rest := []) K (c_X7_isBehind (y) (k) hwf (by omega) (by omega) (by omega) (by omega)) (cwV 1 hts gC_X8_76 rfl rfl rfl (by decide +kernel) ⟨Nat.le_of_ble_eq_true rfl, Nat.le_of_ble_eq_true rfl⟩) hK hW (kW_at (kC_pay hwf (by omega) (show (y) < S.1 8 0 from by omega))) rfl rfl hl.1 rfl (Nat.le_of_ble_eq_true rfl) dX8_nextQueued_76 ⟨Nat.le_refl _, Nat.le_refl _⟩ (fun v_ f_ H locs hp hW => ?_)
            obtain ⟨hpv, hpe⟩ := hp
            rw [hpe] at hW
            have hpv : v_ = some (.int (iI (bI (kBeh S y k)))) := hpv
            subst hpv
            refine xi_ifb_eq (tgt := 86) hx hb dX8_nextQueued_79 (by decide) (fun c_9 => ?_) (fun c_9 => ?_)
            · refine xi_iinc (lv' := [(5, .int (iI (k + 1))), (6, .ref (ad (1000 + 2 * (k).toNat))), (4, pR ad (y)), (3, pR ad (u)), (2, .int (iI (c))), (1, .int (iI (b))), (0, .ref (ad 5))]) hx hb dX8_nextQueued_86 hl (k := 1) rfl (by decide) (by simp [pR_cat, cat_i, cat_l, cat_r, cat_n]) (fun ls hl => ?_)
              refine lv_goto (tgt := 6) hx hb dX8_nextQueued_89 (by decide) ?_
              have hnb : kNxB S b c u k y = y := by simp only [kNxB, c_4, c_6, c_7, c_8, c_9, decide_true, decide_false, Bool.true_and, Bool.and_true, Bool.false_and, Bool.and_false, Bool.true_or, Bool.or_true, Bool.false_or, Bool.or_false, Bool.not_true, Bool.not_false, eq_self, if_true, if_false, ite_true, ite_false, Bool.false_eq_true, reduceCtorEq, not_false_eq_true]
              exact ih_lp_1 (k + 1) (y) _ _ _ (by first | omega | (dsimp only; omega)) ⟨⟨⟨by omega, by omega⟩, by rw [show (k + 1).toNat = k.toNat + 1 by omega, kNx_s, show ((k.toNat : Nat) : Int) = k by omega, ← hy, hnb]⟩, hW, lv_sub hl [0, 2, 3, 4, 5, 6] rfl⟩
            · refine lv_aload hx hb dX8_nextQueued_82 (lv_at hl 0 rfl) ?_
              refine xp_un (k := k) (by omega) ?_
              refine xp_astore (lv' := [(4, pR ad (k)), (6, .ref (ad (1000 + 2 * (k).toNat))), (5, .int (iI (k))), (3, pR ad (u)), (2, .int (iI (c))), (1, .int (iI (b))), (0, .ref (ad 5))]) hx hb dX8_nextQueued_84 hl (by decide) (by simp [pR_cat, cat_i, cat_l, cat_r, cat_n]) (fun ls hl => ?_)
              refine xi_iinc (lv' := [(5, .int (iI (k + 1))), (4, pR ad (k)), (6, .ref (ad (1000 + 2 * (k).toNat))), (3, pR ad (u)), (2, .int (iI (c))), (1, .int (iI (b))), (0, .ref (ad 5))]) hx hb dX8_nextQueued_86 hl (k := 2) rfl (by decide) (by simp [pR_cat, cat_i, cat_l, cat_r, cat_n]) (fun ls hl => ?_)
              refine lv_goto (tgt := 6) hx hb dX8_nextQueued_89 (by decide) ?_
              have hnb : kNxB S b c u k y = k := by simp only [kNxB, c_4, c_6, c_7, c_8, c_9, decide_true, decide_false, Bool.true_and, Bool.and_true, Bool.false_and, Bool.and_false, Bool.true_or, Bool.or_true, Bool.false_or, Bool.or_false, Bool.not_true, Bool.not_false, eq_self, if_true, if_false, ite_true, ite_false, Bool.false_eq_true, reduceCtorEq, not_false_eq_true]
              exact ih_lp_1 (k + 1) (k) _ _ _ (by first | omega | (dsimp only; omega)) ⟨⟨⟨by omega, by omega⟩, by rw [show (k + 1).toNat = k.toNat + 1 by omega, kNx_s, show ((k.toNat : Nat) : Int) = k by omega, ← hy, hnb]⟩, hW, lv_sub hl [0, 1, 3, 4, 5, 6] rfl⟩
        · refine lv_aload hx hb dX8_nextQueued_58 (lv_at hl 0 rfl) ?_
          refine xp_aload_n hx hb dX8_nextQueued_60 rfl (lv_at hl 3 rfl) ?_
          refine xp_ref (k := u) (by omega) ?_
          refine g_callV (i := 100000 + (1000 + 2 * (k).toNat)) (As := [.ref (ad (1000 + 2 * (u).toNat))]) (rest := []) K (c_X7_isBehind (k) (u) hwf (by omega) (by omega) (by omega) (by omega)) (cwV 1 hts gC_X8_76 rfl rfl rfl (by decide +kernel) ⟨Nat.le_of_ble_eq_true rfl, Nat.le_of_ble_eq_true rfl⟩) hK hW (kW_at (kC_pay hwf (by omega) (show (k) < S.1 8 0 from by omega))) rfl rfl hl.1 rfl (Nat.le_of_ble_eq_true rfl) dX8_nextQueued_61 ⟨Nat.le_refl _, Nat.le_refl _⟩ (fun v_ f_ H locs hp hW => ?_)
          obtain ⟨hpv, hpe⟩ := hp
          rw [hpe] at hW
          have hpv : v_ = some (.int (iI (bI (kBeh S k u)))) := hpv
          subst hpv
          refine xi_ifb_eq (tgt := 86) hx hb dX8_nextQueued_64 (by decide) (fun c_10 => ?_) (fun c_10 => ?_)
          · refine xi_iinc (lv' := [(5, .int (iI (k + 1))), (6, .ref (ad (1000 + 2 * (k).toNat))), (4, pR ad (y)), (3, pR ad (u)), (2, .int (iI (c))), (1, .int (iI (b))), (0, .ref (ad 5))]) hx hb dX8_nextQueued_86 hl (k := 1) rfl (by decide) (by simp [pR_cat, cat_i, cat_l, cat_r, cat_n]) (fun ls hl => ?_)
            refine lv_goto (tgt := 6) hx hb dX8_nextQueued_89 (by decide) ?_
            have hnb : kNxB S b c u k y = y := by simp only [kNxB, c_4, c_6, c_7, c_10, decide_true, decide_false, Bool.true_and, Bool.and_true, Bool.false_and, Bool.and_false, Bool.true_or, Bool.or_true, Bool.false_or, Bool.or_false, Bool.not_true, Bool.not_false, eq_self, if_true, if_false, ite_true, ite_false, Bool.false_eq_true, reduceCtorEq, not_false_eq_true]
            exact ih_lp_1 (k + 1) (y) _ _ _ (by first | omega | (dsimp only; omega)) ⟨⟨⟨by omega, by omega⟩, by rw [show (k + 1).toNat = k.toNat + 1 by omega, kNx_s, show ((k.toNat : Nat) : Int) = k by omega, ← hy, hnb]⟩, hW, lv_sub hl [0, 2, 3, 4, 5, 6] rfl⟩
          · refine xp_aload hx hb dX8_nextQueued_67 (lv_at hl 2 rfl) ?_
            refine xp_ifnull (tgt := 82) hx hb dX8_nextQueued_69 (by decide) (fun c_11 => ?_) (fun c_11 => ?_)
            · refine lv_aload hx hb dX8_nextQueued_82 (lv_at hl 0 rfl) ?_
              refine xp_un (k := k) (by omega) ?_
              refine xp_astore (lv' := [(4, pR ad (k)), (6, .ref (ad (1000 + 2 * (k).toNat))), (5, .int (iI (k))), (3, pR ad (u)), (2, .int (iI (c))), (1, .int (iI (b))), (0, .ref (ad 5))]) hx hb dX8_nextQueued_84 hl (by decide) (by simp [pR_cat, cat_i, cat_l, cat_r, cat_n]) (fun ls hl => ?_)
              refine xi_iinc (lv' := [(5, .int (iI (k + 1))), (4, pR ad (k)), (6, .ref (ad (1000 + 2 * (k).toNat))), (3, pR ad (u)), (2, .int (iI (c))), (1, .int (iI (b))), (0, .ref (ad 5))]) hx hb dX8_nextQueued_86 hl (k := 2) rfl (by decide) (by simp [pR_cat, cat_i, cat_l, cat_r, cat_n]) (fun ls hl => ?_)
              refine lv_goto (tgt := 6) hx hb dX8_nextQueued_89 (by decide) ?_
              have hnb : kNxB S b c u k y = k := by simp only [kNxB, c_4, c_6, c_7, c_10, c_11, decide_true, decide_false, Bool.true_and, Bool.and_true, Bool.false_and, Bool.and_false, Bool.true_or, Bool.or_true, Bool.false_or, Bool.or_false, Bool.not_true, Bool.not_false, eq_self, if_true, if_false, ite_true, ite_false, Bool.false_eq_true, reduceCtorEq, not_false_eq_true]
              exact ih_lp_1 (k + 1) (k) _ _ _ (by first | omega | (dsimp only; omega)) ⟨⟨⟨by omega, by omega⟩, by rw [show (k + 1).toNat = k.toNat + 1 by omega, kNx_s, show ((k.toNat : Nat) : Int) = k by omega, ← hy, hnb]⟩, hW, lv_sub hl [0, 1, 3, 4, 5, 6] rfl⟩
            · refine xp_aload hx hb dX8_nextQueued_72 (lv_at hl 2 rfl) ?_
              refine xp_ref (k := y) (by omega) ?_
              refine lv_aload hx hb dX8_nextQueued_74 (lv_at hl 0 rfl) ?_
              refine g_callV (i := 100000 + (1000 + 2 * (y).toNat)) (As := [.ref (ad (1000 + 2 * (k).toNat))]) (rest := []) K (c_X7_isBehind (y) (k) hwf (by omega) (by omega) (by omega) (by omega)) (cwV 1 hts gC_X8_76 rfl rfl rfl (by decide +kernel) ⟨Nat.le_of_ble_eq_true rfl, Nat.le_of_ble_eq_true rfl⟩) hK hW (kW_at (kC_pay hwf (by omega) (show (y) < S.1 8 0 from by omega))) rfl rfl hl.1 rfl (Nat.le_of_ble_eq_true rfl) dX8_nextQueued_76 ⟨Nat.le_refl _, Nat.le_refl _⟩ (fun v_ f_ H locs hp hW => ?_)
              obtain ⟨hpv, hpe⟩ := hp
              rw [hpe] at hW
              have hpv : v_ = some (.int (iI (bI (kBeh S y k)))) := hpv
              subst hpv
              refine xi_ifb_eq (tgt := 86) hx hb dX8_nextQueued_79 (by decide) (fun c_12 => ?_) (fun c_12 => ?_)
              · refine xi_iinc (lv' := [(5, .int (iI (k + 1))), (6, .ref (ad (1000 + 2 * (k).toNat))), (4, pR ad (y)), (3, pR ad (u)), (2, .int (iI (c))), (1, .int (iI (b))), (0, .ref (ad 5))]) hx hb dX8_nextQueued_86 hl (k := 1) rfl (by decide) (by simp [pR_cat, cat_i, cat_l, cat_r, cat_n]) (fun ls hl => ?_)
                refine lv_goto (tgt := 6) hx hb dX8_nextQueued_89 (by decide) ?_
                have hnb : kNxB S b c u k y = y := by simp only [kNxB, c_4, c_6, c_7, c_10, c_11, c_12, decide_true, decide_false, Bool.true_and, Bool.and_true, Bool.false_and, Bool.and_false, Bool.true_or, Bool.or_true, Bool.false_or, Bool.or_false, Bool.not_true, Bool.not_false, eq_self, if_true, if_false, ite_true, ite_false, Bool.false_eq_true, reduceCtorEq, not_false_eq_true]
                exact ih_lp_1 (k + 1) (y) _ _ _ (by first | omega | (dsimp only; omega)) ⟨⟨⟨by omega, by omega⟩, by rw [show (k + 1).toNat = k.toNat + 1 by omega, kNx_s, show ((k.toNat : Nat) : Int) = k by omega, ← hy, hnb]⟩, hW, lv_sub hl [0, 2, 3, 4, 5, 6] rfl⟩
              · refine lv_aload hx hb dX8_nextQueued_82 (lv_at hl 0 rfl) ?_
                refine xp_un (k := k) (by omega) ?_
                refine xp_astore (lv' := [(4, pR ad (k)), (6, .ref (ad (1000 + 2 * (k).toNat))), (5, .int (iI (k))), (3, pR ad (u)), (2, .int (iI (c))), (1, .int (iI (b))), (0, .ref (ad 5))]) hx hb dX8_nextQueued_84 hl (by decide) (by simp [pR_cat, cat_i, cat_l, cat_r, cat_n]) (fun ls hl => ?_)
                refine xi_iinc (lv' := [(5, .int (iI (k + 1))), (4, pR ad (k)), (6, .ref (ad (1000 + 2 * (k).toNat))), (3, pR ad (u)), (2, .int (iI (c))), (1, .int (iI (b))), (0, .ref (ad 5))]) hx hb dX8_nextQueued_86 hl (k := 2) rfl (by decide) (by simp [pR_cat, cat_i, cat_l, cat_r, cat_n]) (fun ls hl => ?_)
                refine lv_goto (tgt := 6) hx hb dX8_nextQueued_89 (by decide) ?_
                have hnb : kNxB S b c u k y = k := by simp only [kNxB, c_4, c_6, c_7, c_10, c_11, c_12, decide_true, decide_false, Bool.true_and, Bool.and_true, Bool.false_and, Bool.and_false, Bool.true_or, Bool.or_true, Bool.false_or, Bool.or_false, Bool.not_true, Bool.not_false, eq_self, if_true, if_false, ite_true, ite_false, Bool.false_eq_true, reduceCtorEq, not_false_eq_true]
                exact ih_lp_1 (k + 1) (k) _ _ _ (by first | omega | (dsimp only; omega)) ⟨⟨⟨by omega, by omega⟩, by rw [show (k + 1).toNat = k.toNat + 1 by omega, kNx_s, show ((k.toNat : Nat) : Int) = k by omega, ← hy, hnb]⟩, hW, lv_sub hl [0, 1, 3, 4, 5, 6] rfl⟩
def kFeB (S : ST) (b c d k : Int) : Bool := (decide (S.1 18 k = 4) && decide (S.1 11 k = c)) && decide (S.1 9 k = b) && decide (S.1 41 k = d)
def kFeK (S : ST) (b c d k : Int) : Int := if kFeB S b c d k = true then (if S.1 15 k = 0 then 1 else 2) else 0
def kFee (S : ST) (b c d : Int) (n : Nat) : Int := suI (kFeK S b c d) n
theorem kFee_r (S : ST) (b c d : Int) (n : Nat) : 0 ≤ kFee S b c d n ∧ kFee S b c d n ≤ 2 * n := by
  constructor
  · exact suI_nn (fun k _ _ => by
      unfold kFeK
      split
      · split <;> omega
      · omega)
  · have h := suI_bd (f := kFeK S b c d) (B := 2) (n := n) (fun k _ _ => by
      unfold kFeK
      split
      · split <;> omega
      · omega)
    exact h.2
set_option maxHeartbeats 4000000 in
set_option maxRecDepth 100000 in
theorem c_X8_feesOf {l : Launch} {D : va_G} {cy : Nat → ClassId} {B0 : Nat} {ad bk : Nat → Nat} {S : ST} {I : Int → Bool} {cX qX : Int → Int64} {G : gF} (b : Int) (c : Int) (d : Int) (hwf : wf S) (hb0 : 0 ≤ b ∧ b ≤ 5)(hc : 0 ≤ c ∧ c ≤ 2) (hd : rI d) : gM l yX8_feesOf vX8_feesOf 4 88 D cy B0 [.ref (ad 5), .int (iI (b)), .int (iI (c)), .int (iI (d))] (kW cy ad bk S (I, cX, qX) G) (fun r g_ => r = some (.int (iI (kFee S b c d (nP S)))) ∧ g_ = kW cy ad bk S (I, cX, qX) G) 0 0 := by
  refine g_start (cc := cX8_feesOf) (maxL := 7) (ret := (some .int)) (by decide) rfl (Nat.le_of_ble_eq_true rfl) ?_
  intro p_ e_ s_ m_ be_ me_ co_ ls H locs K hr hlk hnm hK hW hl
  obtain ⟨hx, hb, hml, hown, hts⟩ := id K
  have hl : lv_has ls 7 [(0, .ref (ad 5)), (1, .int (iI (b))), (2, .int (iI (c))), (3, .int (iI (d)))] := hl
  have h80 := wf_8 hwf 0
  refine xi_iconst hx hb dX8_feesOf_0 ?_
  refine lv_istore (lv' := [(4, .int (iI (0))), (0, .ref (ad 5)), (1, .int (iI (b))), (2, .int (iI (c))), (3, .int (iI (d)))]) hx hb dX8_feesOf_1 hl (by decide) rfl (fun ls hl => ?_)
  refine xi_iconst hx hb dX8_feesOf_3 ?_
  refine lv_istore (lv' := [(5, .int (iI (0))), (4, .int (iI (0))), (0, .ref (ad 5)), (1, .int (iI (b))), (2, .int (iI (c))), (3, .int (iI (d)))]) hx hb dX8_feesOf_4 hl (by decide) rfl (fun ls hl => ?_)
  refine lp_w1 (Wg := fun (H : Heap) (locs : List Loc) (ls : Array Slot) => W p_ l e_ { frames := 4, cells := 0, slots := 0, locals := 88 } s_ m_ ([.ref (ad 5), .int (iI (b)), .int (iI (c)), .int (iI (d))] : List Value).toArray be_ me_ co_ H locs 0 0 (MQ be_ (gQ D B0 (fun (r : Option Value) (g_ : gF) => r = some (.int (iI (kFee S b c d (nP S)))) ∧ g_ = kW cy ad bk S (I, cX, qX) G)) ([.ref (ad 5), .int (iI (b)), .int (iI (c)), .int (iI (d))] : List Value).toArray s_ 0 0 (fun q : Nat => B0 ≤ q)) (F0 m_ 6 ls [])) (fun (k : Int) (H : Heap) (locs : List Loc) (ls : Array Slot) => (0 ≤ k ∧ k ≤ S.1 8 0) ∧ gW D B0 s_ (kW cy ad bk S (I, cX, qX) G) H locs ∧ lv_has ls 7 [(5, .int (iI (k))), (4, .int (iI (kFee S b c d k.toNat))), (3, .int (iI (d))), (2, .int (iI (c))), (1, .int (iI (b))), (0, .ref (ad 5))]) (fun (k : Int) => (60 - k).toNat) (fun k H locs ls hI ih_lp_1 => ?_) (0) _ _ _ ⟨⟨by decide, by omega⟩, hW, lv_sub hl [0, 1, 5, 4, 3, 2] rfl⟩
  obtain ⟨hI_lp_1, hW, hl⟩ := hI
  have hk := hI_lp_1
  have h8 := wf_8 hwf 0
  have hfr := kFee_r S b c d k.toNat
  refine lv_iload hx hb dX8_feesOf_6 (lv_at hl 0 rfl) ?_
  refine lv_aload_n hx hb dX8_feesOf_8 rfl (lv_at hl 5 rfl) ?_
  refine g_get (ref := RX8) (T := TX8) (N := 2) (ci := 9) hx hb hts wsC_X8 hown hK hW (100000 + 5) (kW_at rfl) rfl 0 (by decide) (hts _ lC_X8_12) (fun x h => h) (v := .ref (ad 9)) rfl dX8_feesOf_9 ?_
  refine g_callV (i := 100000 + 9) (As := []) (rest := [.int (iI (k))]) K (c_Jx4a65c_size_8abf5 (i := 100000 + 9) (j := 0) (n := 0) (g := fun _ => none) (kW_at rfl)) (cwV 0 hts gC_X8_33 rfl rfl rfl (by decide +kernel) ⟨Nat.le_of_ble_eq_true rfl, Nat.le_of_ble_eq_true rfl⟩) hK hW (kW_at rfl) rfl rfl hl.1 rfl (Nat.le_of_ble_eq_true rfl) dX8_feesOf_12 ⟨Nat.le_refl _, Nat.le_refl _⟩ (fun v_ f_ H locs hp hW => ?_)
  obtain ⟨hpv, hpe⟩ := hp
  rw [hpe] at hW
  have hpv : v_ = some (.int (iI (S.1 8 (0)))) := hpv
  subst hpv
  have w_2 := wf_8 hwf 0
  refine xi_icmp_ge (tgt := 90) hx hb ⟨by omega, by omega⟩ ⟨by omega, by omega⟩ dX8_feesOf_15 (by decide) (fun c_3 => ?_) (fun c_3 => ?_)
  · refine lv_iload hx hb dX8_feesOf_90 (lv_at hl 1 rfl) ?_
    exact g_iret hx hb hr hW ⟨by rw [show k.toNat = nP S by unfold nP; omega], rfl⟩ dX8_feesOf_92 hlk
  · refine lv_aload_n hx hb dX8_feesOf_18 rfl (lv_at hl 5 rfl) ?_
    refine g_get (ref := RX8) (T := TX8) (N := 2) (ci := 9) hx hb hts wsC_X8 hown hK hW (100000 + 5) (kW_at rfl) rfl 0 (by decide) (hts _ lC_X8_12) (fun x h => h) (v := .ref (ad 9)) rfl dX8_feesOf_19 ?_
    refine lv_iload hx hb dX8_feesOf_22 (lv_at hl 0 rfl) ?_
    refine g_callV (i := 100000 + 9) (As := [.int (iI (k))]) (rest := []) K (c_Jx4a65c_get_915e3 (i := 100000 + 9) (j := 100000 + 11) (k) (kW_at rfl) (kW_at (kC_l11 ((kls hwf).2.2 (show 0 < S.1 8 0 by omega)))) (kls hwf).1 (kls hwf).2.1 (show 0 ≤ (k) ∧ (k) < S.1 8 0 from ⟨by omega, by omega⟩)) (cwV 1 hts gC_X8_37 rfl rfl rfl (by decide +kernel) ⟨Nat.le_of_ble_eq_true rfl, Nat.le_of_ble_eq_true rfl⟩) hK hW (kW_at rfl) rfl rfl hl.1 rfl (Nat.le_of_ble_eq_true rfl) dX8_feesOf_24 ⟨Nat.le_refl _, Nat.le_refl _⟩ (fun v_ f_ H locs hp hW => ?_)
    obtain ⟨hpv, hpe⟩ := hp
    rw [hpe] at hW
    have hpv : v_ = some (.ref (ad (1000 + 2 * (k).toNat))) := hpv.trans (congrArg some (lsP_at (S := S) (by omega) (show (k) < S.1 8 0 by omega)))
    subst hpv
    refine va_castS hx hb hown (hts _ hC_X8_41) (hK.1.1 8 _ rfl).2 (va_recv (q0 := 0) hK.1 (hW.1.one (kW_at (kC_pay hwf (by omega) (show (k) < S.1 8 0 from by omega)))) rfl rfl) dX8_feesOf_27 ?_
    refine lv_astore (lv' := [(6, .ref (ad (1000 + 2 * (k).toNat))), (5, .int (iI (k))), (4, .int (iI (kFee S b c d k.toNat))), (3, .int (iI (d))), (2, .int (iI (c))), (1, .int (iI (b))), (0, .ref (ad 5))]) hx hb dX8_feesOf_30 hl (by decide) rfl (fun ls hl => ?_)
    refine lv_aload hx hb dX8_feesOf_32 (lv_at hl 0 rfl) ?_
    refine xi_iconst hx hb dX8_feesOf_34 ?_
    refine lv_iload_n hx hb dX8_feesOf_35 rfl (lv_at hl 4 rfl) ?_
    refine g_callV (i := 100000 + (1000 + 2 * (k).toNat)) (As := [.int (iI (4)), .int (iI (c))]) (rest := []) K (c_X7_isIn (k) (4) (c) hwf (by omega) (by omega) ⟨by omega, by omega⟩ ⟨by omega, by omega⟩) (cwV 2 hts gC_X8_62 rfl rfl rfl (by decide +kernel) ⟨Nat.le_of_ble_eq_true rfl, Nat.le_of_ble_eq_true rfl⟩) hK hW (kW_at (kC_pay hwf (by omega) (show (k) < S.1 8 0 from by omega))) rfl rfl hl.1 rfl (Nat.le_of_ble_eq_true rfl) dX8_feesOf_36 ⟨Nat.le_refl _, Nat.le_refl _⟩ (fun v_ f_ H locs hp hW => ?_)
    obtain ⟨hpv, hpe⟩ := hp
    rw [hpe] at hW
    have hpv : v_ = some (.int (iI (bI (decide (S.1 18 k = 4) && decide (S.1 11 k = c))))) := hpv
    subst hpv
    refine xi_ifb_eq (tgt := 84) hx hb dX8_feesOf_39 (by decide) (fun c_4 => ?_) (fun c_4 => ?_)
    · refine xi_iinc (lv' := [(5, .int (iI (k + 1))), (6, .ref (ad (1000 + 2 * (k).toNat))), (4, .int (iI (kFee S b c d k.toNat))), (3, .int (iI (d))), (2, .int (iI (c))), (1, .int (iI (b))), (0, .ref (ad 5))]) hx hb dX8_feesOf_84 hl (k := 1) rfl (by decide) rfl (fun ls hl => ?_)
      refine lv_goto (tgt := 6) hx hb dX8_feesOf_87 (by decide) ?_
      have hfb : kFeB S b c d k = false := by simp only [kFeB, c_4, decide_true, decide_false, Bool.true_and, Bool.and_true, Bool.false_and, Bool.and_false, Bool.true_or, Bool.or_true, Bool.false_or, Bool.or_false, Bool.not_true, Bool.not_false, eq_self]
      have hfe : (kFee S b c d k.toNat : Int) = kFee S b c d k.toNat + kFeK S b c d k := by rw [kFeK, hfb]; simp
      have hl : lv_has ls 7 [(5, .int (iI (k + 1))), (4, .int (iI (kFee S b c d (k + 1).toNat))), (3, .int (iI (d))), (2, .int (iI (c))), (1, .int (iI (b))), (0, .ref (ad 5))] := by rw [show (k + 1).toNat = k.toNat + 1 by omega, show kFee S b c d (k.toNat + 1) = kFee S b c d k.toNat + kFeK S b c d ((k.toNat : Nat) : Int) from rfl, show ((k.toNat : Nat) : Int) = k by omega, ← hfe]; exact lv_sub hl [0, 2, 3, 4, 5, 6] rfl
      exact ih_lp_1 (k + 1) _ _ _ (by first | omega | (dsimp only; omega)) ⟨⟨by omega, by omega⟩, hW, lv_sub hl [0, 1, 2, 3, 4, 5] rfl⟩
    · refine lv_aload hx hb dX8_feesOf_42 (lv_at hl 0 rfl) ?_
      refine g_get (ref := RX7) (T := TX7) (N := 9) (ci := 8) hx hb hts wsC_X7 hown hK hW (100000 + (1000 + 2 * (k).toNat)) (kW_at (kC_pay hwf (by omega) (show (k) < S.1 8 0 from by omega))) rfl 1 (by decide) (hts _ lC_X8_66) (fun x h => h) (v := .ref (ad (1001 + 2 * (k).toNat))) rfl dX8_feesOf_44 ?_
      refine g_get (ref := RX10) (T := TX10) (N := 9) (ci := 11) hx hb hts wsC_X10 hown hK hW (100000 + (1001 + 2 * (k).toNat)) (kW_at (kC_trm hwf (by omega) (show (k) < S.1 8 0 from by omega))) rfl 0 (by decide) (hts _ lC_X8_70) (fun x h => h) (v := .int (iI (S.1 9 (k)))) rfl dX8_feesOf_47 ?_
      have w_5 := wf_9 hwf (k)
      refine lv_iload_n hx hb dX8_feesOf_50 rfl (lv_at hl 5 rfl) ?_
      refine xi_icmp_ne (tgt := 84) hx hb ⟨by omega, by omega⟩ ⟨by omega, by omega⟩ dX8_feesOf_51 (by decide) (fun c_6 => ?_) (fun c_6 => ?_)
      · refine xi_iinc (lv' := [(5, .int (iI (k + 1))), (6, .ref (ad (1000 + 2 * (k).toNat))), (4, .int (iI (kFee S b c d k.toNat))), (3, .int (iI (d))), (2, .int (iI (c))), (1, .int (iI (b))), (0, .ref (ad 5))]) hx hb dX8_feesOf_84 hl (k := 1) rfl (by decide) rfl (fun ls hl => ?_)
        refine lv_goto (tgt := 6) hx hb dX8_feesOf_87 (by decide) ?_
        have hfb : kFeB S b c d k = false := by simp only [kFeB, c_4, c_6, decide_true, decide_false, Bool.true_and, Bool.and_true, Bool.false_and, Bool.and_false, Bool.true_or, Bool.or_true, Bool.false_or, Bool.or_false, Bool.not_true, Bool.not_false, eq_self]
        have hfe : (kFee S b c d k.toNat : Int) = kFee S b c d k.toNat + kFeK S b c d k := by rw [kFeK, hfb]; simp
        have hl : lv_has ls 7 [(5, .int (iI (k + 1))), (4, .int (iI (kFee S b c d (k + 1).toNat))), (3, .int (iI (d))), (2, .int (iI (c))), (1, .int (iI (b))), (0, .ref (ad 5))] := by rw [show (k + 1).toNat = k.toNat + 1 by omega, show kFee S b c d (k.toNat + 1) = kFee S b c d k.toNat + kFeK S b c d ((k.toNat : Nat) : Int) from rfl, show ((k.toNat : Nat) : Int) = k by omega, ← hfe]; exact lv_sub hl [0, 2, 3, 4, 5, 6] rfl
        exact ih_lp_1 (k + 1) _ _ _ (by first | omega | (dsimp only; omega)) ⟨⟨by omega, by omega⟩, hW, lv_sub hl [0, 1, 2, 3, 4, 5] rfl⟩
      · refine lv_aload hx hb dX8_feesOf_54 (lv_at hl 0 rfl) ?_
        refine g_get (ref := RX7) (T := TX7) (N := 9) (ci := 8) hx hb hts wsC_X7 hown hK hW (100000 + (1000 + 2 * (k).toNat)) (kW_at (kC_pay hwf (by omega) (show (k) < S.1 8 0 from by omega))) rfl 6 (by decide) (hts _ lC_X8_93) (fun x h => h) (v := .int (iI (S.1 41 (k)))) rfl dX8_feesOf_56 ?_
        have w_7 := wf_41 hwf (k)
        refine lv_iload_n hx hb dX8_feesOf_59 rfl (lv_at hl 3 rfl) ?_
        refine xi_icmp_ne (tgt := 84) hx hb ⟨by omega, by omega⟩ ⟨by omega, by omega⟩ dX8_feesOf_60 (by decide) (fun c_8 => ?_) (fun c_8 => ?_)
        · refine xi_iinc (lv' := [(5, .int (iI (k + 1))), (6, .ref (ad (1000 + 2 * (k).toNat))), (4, .int (iI (kFee S b c d k.toNat))), (3, .int (iI (d))), (2, .int (iI (c))), (1, .int (iI (b))), (0, .ref (ad 5))]) hx hb dX8_feesOf_84 hl (k := 1) rfl (by decide) rfl (fun ls hl => ?_)
          refine lv_goto (tgt := 6) hx hb dX8_feesOf_87 (by decide) ?_
          have hfb : kFeB S b c d k = false := by simp only [kFeB, c_4, c_6, c_8, decide_true, decide_false, Bool.true_and, Bool.and_true, Bool.false_and, Bool.and_false, Bool.true_or, Bool.or_true, Bool.false_or, Bool.or_false, Bool.not_true, Bool.not_false, eq_self]
          have hfe : (kFee S b c d k.toNat : Int) = kFee S b c d k.toNat + kFeK S b c d k := by rw [kFeK, hfb]; simp
          have hl : lv_has ls 7 [(5, .int (iI (k + 1))), (4, .int (iI (kFee S b c d (k + 1).toNat))), (3, .int (iI (d))), (2, .int (iI (c))), (1, .int (iI (b))), (0, .ref (ad 5))] := by rw [show (k + 1).toNat = k.toNat + 1 by omega, show kFee S b c d (k.toNat + 1) = kFee S b c d k.toNat + kFeK S b c d ((k.toNat : Nat) : Int) from rfl, show ((k.toNat : Nat) : Int) = k by omega, ← hfe]; exact lv_sub hl [0, 2, 3, 4, 5, 6] rfl
          exact ih_lp_1 (k + 1) _ _ _ (by first | omega | (dsimp only; omega)) ⟨⟨by omega, by omega⟩, hW, lv_sub hl [0, 1, 2, 3, 4, 5] rfl⟩
        · refine lv_iload hx hb dX8_feesOf_63 (lv_at hl 2 rfl) ?_
          have j_9 : ∀ (zJ : Int) (H : Heap) (locs : List Loc), zJ = ((if S.1 15 k = 0 then 1 else 2 : Int)) → gW D B0 s_ (kW cy ad bk S (I, cX, qX) G) H locs → W p_ l e_ { frames := 4, cells := 0, slots := 0, locals := 88 } s_ m_ ([.ref (ad 5), .int (iI (b)), .int (iI (c)), .int (iI (d))] : List Value).toArray be_ me_ co_ H locs 0 0 (MQ be_ (gQ D B0 (fun (r : Option Value) (g_ : gF) => r = some (.int (iI (kFee S b c d (nP S)))) ∧ g_ = kW cy ad bk S (I, cX, qX) G)) ([.ref (ad 5), .int (iI (b)), .int (iI (c)), .int (iI (d))] : List Value).toArray s_ 0 0 (fun q : Nat => B0 ≤ q)) (F0 m_ 81 ls [.int (iI (zJ)), .int (iI (kFee S b c d k.toNat))]) := by
            intro zJ H locs hzJ hW
            subst hzJ
            refine xi_iadd hx hb dX8_feesOf_81 ?_
            refine lv_istore (lv' := [(4, .int (iI ((kFee S b c d k.toNat) + (if S.1 15 k = 0 then 1 else 2 : Int)))), (6, .ref (ad (1000 + 2 * (k).toNat))), (5, .int (iI (k))), (3, .int (iI (d))), (2, .int (iI (c))), (1, .int (iI (b))), (0, .ref (ad 5))]) hx hb dX8_feesOf_82 hl (by decide) rfl (fun ls hl => ?_)
            refine xi_iinc (lv' := [(5, .int (iI (k + 1))), (4, .int (iI ((kFee S b c d k.toNat) + (if S.1 15 k = 0 then 1 else 2 : Int)))), (6, .ref (ad (1000 + 2 * (k).toNat))), (3, .int (iI (d))), (2, .int (iI (c))), (1, .int (iI (b))), (0, .ref (ad 5))]) hx hb dX8_feesOf_84 hl (k := 2) rfl (by decide) rfl (fun ls hl => ?_)
            refine lv_goto (tgt := 6) hx hb dX8_feesOf_87 (by decide) ?_
            have hfb : kFeB S b c d k = true := by simp only [kFeB, c_4, c_6, c_8, decide_true, decide_false, Bool.true_and, Bool.and_true, Bool.false_and, Bool.and_false, Bool.true_or, Bool.or_true, Bool.false_or, Bool.or_false, Bool.not_true, Bool.not_false, eq_self]
            have hfe : ((kFee S b c d k.toNat) + (if S.1 15 k = 0 then 1 else 2 : Int) : Int) = kFee S b c d k.toNat + kFeK S b c d k := by rw [kFeK, hfb]; rfl
            have hl : lv_has ls 7 [(5, .int (iI (k + 1))), (4, .int (iI (kFee S b c d (k + 1).toNat))), (3, .int (iI (d))), (2, .int (iI (c))), (1, .int (iI (b))), (0, .ref (ad 5))] := by rw [show (k + 1).toNat = k.toNat + 1 by omega, show kFee S b c d (k.toNat + 1) = kFee S b c d k.toNat + kFeK S b c d ((k.toNat : Nat) : Int) from rfl, show ((k.toNat : Nat) : Int) = k by omega, ← hfe]; exact lv_sub hl [0, 1, 3, 4, 5, 6] rfl
            exact ih_lp_1 (k + 1) _ _ _ (by first | omega | (dsimp only; omega)) ⟨⟨by omega, by omega⟩, hW, lv_sub hl [0, 1, 2, 3, 4, 5] rfl⟩
          refine lv_aload hx hb dX8_feesOf_65 (lv_at hl 0 rfl) ?_
          refine g_get (ref := RX7) (T := TX7) (N := 9) (ci := 8) hx hb hts wsC_X7 hown hK hW (100000 + (1000 + 2 * (k).toNat)) (kW_at (kC_pay hwf (by omega) (show (k) < S.1 8 0 from by omega))) rfl 1 (by decide) (hts _ lC_X8_66) (fun x h => h) (v := .ref (ad (1001 + 2 * (k).toNat))) rfl dX8_feesOf_67 ?_
          refine g_get (ref := RX10) (T := TX10) (N := 9) (ci := 11) hx hb hts wsC_X10 hown hK hW (100000 + (1001 + 2 * (k).toNat)) (kW_at (kC_trm hwf (by omega) (show (k) < S.1 8 0 from by omega))) rfl 6 (by decide) (hts _ lC_X8_96) (fun x h => h) (v := .int (iI (S.1 15 (k)))) rfl dX8_feesOf_70 ?_
          have w_10 := wf_15 hwf (k)
          refine xi_if_eq (tgt := 80) hx hb ⟨by omega, by omega⟩ dX8_feesOf_73 (by decide) (fun c_11 => ?_) (fun c_11 => ?_)
          · refine xi_iconst hx hb dX8_feesOf_80 ?_
            exact xi_eq (z' := (if S.1 15 k = 0 then 1 else 2 : Int)) (by rw [if_pos c_11]) (j_9 _ _ _ rfl hW)
          · refine xi_iconst hx hb dX8_feesOf_76 ?_
            refine lv_goto (tgt := 81) hx hb dX8_feesOf_77 (by decide) ?_
            exact xi_eq (z' := (if S.1 15 k = 0 then 1 else 2 : Int)) (by rw [if_neg c_11]) (j_9 _ _ _ rfl hW)
def kLaB (S : ST) (I : Int → Bool) (b u : Int) (q : Bool) (k x : Int) : Int := if (I k && decide (S.1 9 k = b) && (decide (u = -1) || decide (S.1 10 k = u)) && (decide (x = -1) || !q || kBeh S k x)) = true then k else x
def kLa (S : ST) (I : Int → Bool) (b u : Int) (q : Bool) (n : Nat) : Int := foS (kLaB S I b u q) (-1) n
theorem kLa_r (S : ST) (I : Int → Bool) (b u : Int) (q : Bool) : ∀ n : Nat, -1 ≤ kLa S I b u q n ∧ kLa S I b u q n < n
  | 0 => by show -1 ≤ (-1 : Int) ∧ (-1 : Int) < 0; omega
  | n + 1 => by
    have ih := kLa_r S I b u q n
    show -1 ≤ kLaB S I b u q n (kLa S I b u q n) ∧ kLaB S I b u q n (kLa S I b u q n) < ((n + 1 : Nat) : Int)
    unfold kLaB
    split <;> omega
theorem kLa_s (S : ST) (I : Int → Bool) (b u : Int) (q : Bool) (n : Nat) : kLa S I b u q (n + 1) = kLaB S I b u q n (kLa S I b u q n) := rfl
set_option maxHeartbeats 4000000 in
set_option maxRecDepth 100000 in
theorem c_X6_lastInBatch {l : Launch} {D : va_G} {cy : Nat → ClassId} {B0 : Nat} {ad bk : Nat → Nat} {S : ST} {I : Int → Bool} {cX qX : Int → Int64} {G : gF} (b : Int) (u : Int) (bq : Bool) (hwf : wf S) (hb0 : 0 ≤ b ∧ b ≤ 5) (hu : -1 ≤ u ∧ u ≤ 5) : gM l yX6_lastInBatch vX6_lastInBatch 5 109 D cy B0 [.ref (ad 1), .int (iI (b)), .int (iI (u)), .int (iI (bI (bq)))] (kW cy ad bk S (I, cX, qX) G) (fun r g_ => r = some (pR ad (kLa S I b u bq (nP S))) ∧ g_ = kW cy ad bk S (I, cX, qX) G) 0 0 := by
  refine g_start (cc := cX6_lastInBatch) (maxL := 7) (ret := (some (.object "MillstreamPayments$Payment"))) (by decide) rfl (Nat.le_of_ble_eq_true rfl) ?_
  intro p_ e_ s_ m_ be_ me_ co_ ls H locs K hr hlk hnm hK hW hl
  obtain ⟨hx, hb, hml, hown, hts⟩ := id K
  have hl : lv_has ls 7 [(0, .ref (ad 1)), (1, .int (iI (b))), (2, .int (iI (u))), (3, .int (iI (bI (bq))))] := hl
  have h80 := wf_8 hwf 0
  refine lv_null hx hb dX6_lastInBatch_0 ?_
  refine xp_nul (ad := ad) ?_
  refine xp_astore (lv' := [(4, pR ad ((-1))), (0, .ref (ad 1)), (1, .int (iI (b))), (2, .int (iI (u))), (3, .int (iI (bI (bq))))]) hx hb dX6_lastInBatch_1 hl (by decide) (by simp [pR_cat, cat_i, cat_l, cat_r, cat_n]) (fun ls hl => ?_)
  refine xi_iconst hx hb dX6_lastInBatch_3 ?_
  refine lv_istore (lv' := [(5, .int (iI (0))), (4, pR ad ((-1))), (0, .ref (ad 1)), (1, .int (iI (b))), (2, .int (iI (u))), (3, .int (iI (bI (bq))))]) hx hb dX6_lastInBatch_4 hl (by decide) (by simp [pR_cat, cat_i, cat_l, cat_r, cat_n]) (fun ls hl => ?_)
  refine lp_w2 (Wg := fun (H : Heap) (locs : List Loc) (ls : Array Slot) => W p_ l e_ { frames := 5, cells := 0, slots := 0, locals := 109 } s_ m_ ([.ref (ad 1), .int (iI (b)), .int (iI (u)), .int (iI (bI (bq)))] : List Value).toArray be_ me_ co_ H locs 0 0 (MQ be_ (gQ D B0 (fun (r : Option Value) (g_ : gF) => r = some (pR ad (kLa S I b u bq (nP S))) ∧ g_ = kW cy ad bk S (I, cX, qX) G)) ([.ref (ad 1), .int (iI (b)), .int (iI (u)), .int (iI (bI (bq)))] : List Value).toArray s_ 0 0 (fun q : Nat => B0 ≤ q)) (F0 m_ 6 ls [])) (fun (k : Int) (y : Int) (H : Heap) (locs : List Loc) (ls : Array Slot) => ((0 ≤ k ∧ k ≤ S.1 8 0) ∧ y = kLa S I b u bq k.toNat) ∧ gW D B0 s_ (kW cy ad bk S (I, cX, qX) G) H locs ∧ lv_has ls 7 [(5, .int (iI (k))), (4, pR ad (y)), (3, .int (iI (bI (bq)))), (2, .int (iI (u))), (1, .int (iI (b))), (0, .ref (ad 1))]) (fun (k : Int) (y : Int) => (60 - k).toNat) (fun k y H locs ls hI ih_lp_1 => ?_) (0) ((-1)) _ _ _ ⟨⟨⟨by decide, by omega⟩, rfl⟩, hW, lv_sub hl [0, 1, 5, 4, 3, 2] rfl⟩
  obtain ⟨hI_lp_1, hW, hl⟩ := hI
  obtain ⟨hk, hy⟩ := hI_lp_1
  have hyr := kLa_r S I b u bq k.toNat
  rw [← hy] at hyr
  have h8 := wf_8 hwf 0
  refine lv_iload hx hb dX6_lastInBatch_6 (lv_at hl 0 rfl) ?_
  refine lv_aload_n hx hb dX6_lastInBatch_8 rfl (lv_at hl 5 rfl) ?_
  refine g_get (ref := RX6) (T := TX6) (N := 8) (ci := 7) hx hb hts wsC_X6 hown hK hW (100000 + 1) (kW_at rfl) rfl 2 (by decide) (hts _ lC_X6_28) (fun x h => h) (v := .ref (ad 5)) rfl dX6_lastInBatch_9 ?_
  refine g_callV (i := 100000 + 5) (As := []) (rest := [.int (iI (k))]) K (c_X8_count  hwf ) (cwV 0 hts gC_X6_121 rfl rfl rfl (by decide +kernel) ⟨Nat.le_of_ble_eq_true rfl, Nat.le_of_ble_eq_true rfl⟩) hK hW (kW_at rfl) rfl rfl hl.1 rfl (Nat.le_of_ble_eq_true rfl) dX6_lastInBatch_12 ⟨Nat.le_refl _, Nat.le_refl _⟩ (fun v_ f_ H locs hp hW => ?_)
  obtain ⟨hpv, hpe⟩ := hp
  rw [hpe] at hW
  have hpv : v_ = some (.int (iI (S.1 8 0))) := hpv
  subst hpv
  refine xi_icmp_ge (tgt := 104) hx hb ⟨by omega, by omega⟩ ⟨by omega, by omega⟩ dX6_lastInBatch_15 (by decide) (fun c_2 => ?_) (fun c_2 => ?_)
  · refine xp_aload hx hb dX6_lastInBatch_104 (lv_at hl 1 rfl) ?_
    exact g_aret hx hb hr (pR_or _ _) hW ⟨by rw [hy, show k.toNat = nP S by unfold nP; omega], rfl⟩ dX6_lastInBatch_106 hlk
  · refine lv_aload_n hx hb dX6_lastInBatch_18 rfl (lv_at hl 5 rfl) ?_
    refine g_get (ref := RX6) (T := TX6) (N := 8) (ci := 7) hx hb hts wsC_X6 hown hK hW (100000 + 1) (kW_at rfl) rfl 2 (by decide) (hts _ lC_X6_28) (fun x h => h) (v := .ref (ad 5)) rfl dX6_lastInBatch_19 ?_
    refine lv_iload hx hb dX6_lastInBatch_22 (lv_at hl 0 rfl) ?_
    refine g_callV (i := 100000 + 5) (As := [.int (iI (k))]) (rest := []) K (c_X8_find (k) hwf ⟨by omega, by omega⟩) (cwV 1 hts gC_X6_125 rfl rfl rfl (by decide +kernel) ⟨Nat.le_of_ble_eq_true rfl, Nat.le_of_ble_eq_true rfl⟩) hK hW (kW_at rfl) rfl rfl hl.1 rfl (Nat.le_of_ble_eq_true rfl) dX6_lastInBatch_24 ⟨Nat.le_refl _, Nat.le_refl _⟩ (fun v_ f_ H locs hp hW => ?_)
    obtain ⟨hpv, hpe⟩ := hp
    rw [hpe] at hW
    have hpv : v_ = some (.ref (ad (1000 + 2 * (k).toNat))) := hpv.trans (by rw [kFind, if_pos (show 0 ≤ (k) ∧ (k) < S.1 8 0 by omega), pR_r _ (by omega)])
    subst hpv
    refine lv_astore (lv' := [(6, .ref (ad (1000 + 2 * (k).toNat))), (5, .int (iI (k))), (4, pR ad (y)), (3, .int (iI (bI (bq)))), (2, .int (iI (u))), (1, .int (iI (b))), (0, .ref (ad 1))]) hx hb dX6_lastInBatch_27 hl (by decide) (by simp [pR_cat, cat_i, cat_l, cat_r, cat_n]) (fun ls hl => ?_)
    refine lv_aload hx hb dX6_lastInBatch_29 (lv_at hl 0 rfl) ?_
    refine lv_ifnull hx hb dX6_lastInBatch_31 ?_
    refine lv_aload_n hx hb dX6_lastInBatch_34 rfl (lv_at hl 6 rfl) ?_
    refine g_get (ref := RX6) (T := TX6) (N := 8) (ci := 7) hx hb hts wsC_X6 hown hK hW (100000 + 1) (kW_at rfl) rfl 7 (by decide) (hts _ lC_X6_54) (fun x h => h) (v := .ref (ad 7)) rfl dX6_lastInBatch_35 ?_
    refine lv_aload hx hb dX6_lastInBatch_38 (lv_at hl 0 rfl) ?_
    refine g_callV (i := 100000 + 7) (As := [.ref (ad (1000 + 2 * (k).toNat))]) (rest := []) K (c_X2_has (k) hwf (by omega) (by omega)) (cwV 1 hts gC_X6_181 rfl rfl rfl (by decide +kernel) ⟨Nat.le_of_ble_eq_true rfl, Nat.le_of_ble_eq_true rfl⟩) hK hW (kW_at rfl) rfl rfl hl.1 rfl (Nat.le_of_ble_eq_true rfl) dX6_lastInBatch_40 ⟨Nat.le_refl _, Nat.le_refl _⟩ (fun v_ f_ H locs hp hW => ?_)
    obtain ⟨hpv, hpe⟩ := hp
    rw [hpe] at hW
    have hpv : v_ = some (.int (iI (bI (I k)))) := hpv
    subst hpv
    refine xi_ifb_eq (tgt := 98) hx hb dX6_lastInBatch_43 (by decide) (fun c_3 => ?_) (fun c_3 => ?_)
    · refine xi_iinc (lv' := [(5, .int (iI (k + 1))), (6, .ref (ad (1000 + 2 * (k).toNat))), (4, pR ad (y)), (3, .int (iI (bI (bq)))), (2, .int (iI (u))), (1, .int (iI (b))), (0, .ref (ad 1))]) hx hb dX6_lastInBatch_98 hl (k := 1) rfl (by decide) (by simp [pR_cat, cat_i, cat_l, cat_r, cat_n]) (fun ls hl => ?_)
      refine lv_goto (tgt := 6) hx hb dX6_lastInBatch_101 (by decide) ?_
      have hnb : kLaB S I b u bq k y = y := by simp only [kLaB, c_3, decide_true, decide_false, Bool.true_and, Bool.and_true, Bool.false_and, Bool.and_false, Bool.true_or, Bool.or_true, Bool.false_or, Bool.or_false, Bool.not_true, Bool.not_false, eq_self, if_true, if_false, ite_true, ite_false, Bool.false_eq_true, reduceCtorEq, not_false_eq_true]
      exact ih_lp_1 (k + 1) (y) _ _ _ (by first | omega | (dsimp only; omega)) ⟨⟨⟨by omega, by omega⟩, by rw [show (k + 1).toNat = k.toNat + 1 by omega, kLa_s, show ((k.toNat : Nat) : Int) = k by omega, ← hy, hnb]⟩, hW, lv_sub hl [0, 2, 3, 4, 5, 6] rfl⟩
    · refine lv_aload hx hb dX6_lastInBatch_46 (lv_at hl 0 rfl) ?_
      refine g_get (ref := RX7) (T := TX7) (N := 9) (ci := 8) hx hb hts wsC_X7 hown hK hW (100000 + (1000 + 2 * (k).toNat)) (kW_at (kC_pay hwf (by omega) (show (k) < S.1 8 0 from by omega))) rfl 1 (by decide) (hts _ lC_X6_101) (fun x h => h) (v := .ref (ad (1001 + 2 * (k).toNat))) rfl dX6_lastInBatch_48 ?_
      refine g_get (ref := RX10) (T := TX10) (N := 9) (ci := 11) hx hb hts wsC_X10 hown hK hW (100000 + (1001 + 2 * (k).toNat)) (kW_at (kC_trm hwf (by omega) (show (k) < S.1 8 0 from by omega))) rfl 0 (by decide) (hts _ lC_X6_88) (fun x h => h) (v := .int (iI (S.1 9 (k)))) rfl dX6_lastInBatch_51 ?_
      have w_4 := wf_9 hwf (k)
      refine lv_iload_n hx hb dX6_lastInBatch_54 rfl (lv_at hl 5 rfl) ?_
      refine xi_icmp_ne (tgt := 98) hx hb ⟨by omega, by omega⟩ ⟨by omega, by omega⟩ dX6_lastInBatch_55 (by decide) (fun c_5 => ?_) (fun c_5 => ?_)
      · refine xi_iinc (lv' := [(5, .int (iI (k + 1))), (6, .ref (ad (1000 + 2 * (k).toNat))), (4, pR ad (y)), (3, .int (iI (bI (bq)))), (2, .int (iI (u))), (1, .int (iI (b))), (0, .ref (ad 1))]) hx hb dX6_lastInBatch_98 hl (k := 1) rfl (by decide) (by simp [pR_cat, cat_i, cat_l, cat_r, cat_n]) (fun ls hl => ?_)
        refine lv_goto (tgt := 6) hx hb dX6_lastInBatch_101 (by decide) ?_
        have hnb : kLaB S I b u bq k y = y := by simp only [kLaB, c_3, c_5, decide_true, decide_false, Bool.true_and, Bool.and_true, Bool.false_and, Bool.and_false, Bool.true_or, Bool.or_true, Bool.false_or, Bool.or_false, Bool.not_true, Bool.not_false, eq_self, if_true, if_false, ite_true, ite_false, Bool.false_eq_true, reduceCtorEq, not_false_eq_true]
        exact ih_lp_1 (k + 1) (y) _ _ _ (by first | omega | (dsimp only; omega)) ⟨⟨⟨by omega, by omega⟩, by rw [show (k + 1).toNat = k.toNat + 1 by omega, kLa_s, show ((k.toNat : Nat) : Int) = k by omega, ← hy, hnb]⟩, hW, lv_sub hl [0, 2, 3, 4, 5, 6] rfl⟩
      · refine lv_iload_n hx hb dX6_lastInBatch_58 rfl (lv_at hl 4 rfl) ?_
        refine xi_iconst hx hb dX6_lastInBatch_59 ?_
        refine xi_icmp_eq (tgt := 75) hx hb ⟨by omega, by omega⟩ ⟨by omega, by omega⟩ dX6_lastInBatch_60 (by decide) (fun c_6 => ?_) (fun c_6 => ?_)
        · refine xp_aload hx hb dX6_lastInBatch_75 (lv_at hl 2 rfl) ?_
          refine xp_ifnull (tgt := 94) hx hb dX6_lastInBatch_77 (by decide) (fun c_7 => ?_) (fun c_7 => ?_)
          · refine lv_aload hx hb dX6_lastInBatch_94 (lv_at hl 0 rfl) ?_
            refine xp_un (k := k) (by omega) ?_
            refine xp_astore (lv' := [(4, pR ad (k)), (6, .ref (ad (1000 + 2 * (k).toNat))), (5, .int (iI (k))), (3, .int (iI (bI (bq)))), (2, .int (iI (u))), (1, .int (iI (b))), (0, .ref (ad 1))]) hx hb dX6_lastInBatch_96 hl (by decide) (by simp [pR_cat, cat_i, cat_l, cat_r, cat_n]) (fun ls hl => ?_)
            refine xi_iinc (lv' := [(5, .int (iI (k + 1))), (4, pR ad (k)), (6, .ref (ad (1000 + 2 * (k).toNat))), (3, .int (iI (bI (bq)))), (2, .int (iI (u))), (1, .int (iI (b))), (0, .ref (ad 1))]) hx hb dX6_lastInBatch_98 hl (k := 2) rfl (by decide) (by simp [pR_cat, cat_i, cat_l, cat_r, cat_n]) (fun ls hl => ?_)
            refine lv_goto (tgt := 6) hx hb dX6_lastInBatch_101 (by decide) ?_
            have hnb : kLaB S I b u bq k y = k := by simp only [kLaB, c_3, c_5, c_6, c_7, decide_true, decide_false, Bool.true_and, Bool.and_true, Bool.false_and, Bool.and_false, Bool.true_or, Bool.or_true, Bool.false_or, Bool.or_false, Bool.not_true, Bool.not_false, eq_self, if_true, if_false, ite_true, ite_false, Bool.false_eq_true, reduceCtorEq, not_false_eq_true]
            exact ih_lp_1 (k + 1) (k) _ _ _ (by first | omega | (dsimp only; omega)) ⟨⟨⟨by omega, by omega⟩, by rw [show (k + 1).toNat = k.toNat + 1 by omega, kLa_s, show ((k.toNat : Nat) : Int) = k by omega, ← hy, hnb]⟩, hW, lv_sub hl [0, 1, 3, 4, 5, 6] rfl⟩
          · refine lv_iload_n hx hb dX6_lastInBatch_80 rfl (lv_at hl 3 rfl) ?_
            refine xi_ifb_eq (tgt := 94) hx hb dX6_lastInBatch_81 (by decide) (fun c_8 => ?_) (fun c_8 => ?_)
            · refine lv_aload hx hb dX6_lastInBatch_94 (lv_at hl 0 rfl) ?_
              refine xp_un (k := k) (by omega) ?_
              refine xp_astore (lv' := [(4, pR ad (k)), (6, .ref (ad (1000 + 2 * (k).toNat))), (5, .int (iI (k))), (3, .int (iI (bI (bq)))), (2, .int (iI (u))), (1, .int (iI (b))), (0, .ref (ad 1))]) hx hb dX6_lastInBatch_96 hl (by decide) (by simp [pR_cat, cat_i, cat_l, cat_r, cat_n]) (fun ls hl => ?_)
              refine xi_iinc (lv' := [(5, .int (iI (k + 1))), (4, pR ad (k)), (6, .ref (ad (1000 + 2 * (k).toNat))), (3, .int (iI (bI (bq)))), (2, .int (iI (u))), (1, .int (iI (b))), (0, .ref (ad 1))]) hx hb dX6_lastInBatch_98 hl (k := 2) rfl (by decide) (by simp [pR_cat, cat_i, cat_l, cat_r, cat_n]) (fun ls hl => ?_)
              refine lv_goto (tgt := 6) hx hb dX6_lastInBatch_101 (by decide) ?_
              have hnb : kLaB S I b u bq k y = k := by simp only [kLaB, c_3, c_5, c_6, c_7, c_8, decide_true, decide_false, Bool.true_and, Bool.and_true, Bool.false_and, Bool.and_false, Bool.true_or, Bool.or_true, Bool.false_or, Bool.or_false, Bool.not_true, Bool.not_false, eq_self, if_true, if_false, ite_true, ite_false, Bool.false_eq_true, reduceCtorEq, not_false_eq_true]
              exact ih_lp_1 (k + 1) (k) _ _ _ (by first | omega | (dsimp only; omega)) ⟨⟨⟨by omega, by omega⟩, by rw [show (k + 1).toNat = k.toNat + 1 by omega, kLa_s, show ((k.toNat : Nat) : Int) = k by omega, ← hy, hnb]⟩, hW, lv_sub hl [0, 1, 3, 4, 5, 6] rfl⟩
            · refine lv_aload hx hb dX6_lastInBatch_84 (lv_at hl 0 rfl) ?_
              refine xp_aload hx hb dX6_lastInBatch_86 (lv_at hl 2 rfl) ?_
              refine xp_ref (k := y) (by omega) ?_
              refine g_callV (i := 100000 + (1000 + 2 * (k).toNat)) (As := [.ref (ad (1000 + 2 * (y).toNat))]) (rest := []) K (c_X7_isBehind (k) (y) hwf (by omega) (by omega) (by omega) (by omega)) (cwV 1 hts gC_X6_184 rfl rfl rfl (by decide +kernel) ⟨Nat.le_of_ble_eq_true rfl, Nat.le_of_ble_eq_true rfl⟩) hK hW (kW_at (kC_pay hwf (by omega) (show (k) < S.1 8 0 from by omega))) rfl rfl hl.1 rfl (Nat.le_of_ble_eq_true rfl) dX6_lastInBatch_88 ⟨Nat.le_refl _, Nat.le_refl _⟩ (fun v_ f_ H locs hp hW => ?_)
              obtain ⟨hpv, hpe⟩ := hp
              rw [hpe] at hW
              have hpv : v_ = some (.int (iI (bI (kBeh S k y)))) := hpv
              subst hpv
              refine xi_ifb_eq (tgt := 98) hx hb dX6_lastInBatch_91 (by decide) (fun c_9 => ?_) (fun c_9 => ?_)
              · refine xi_iinc (lv' := [(5, .int (iI (k + 1))), (6, .ref (ad (1000 + 2 * (k).toNat))), (4, pR ad (y)), (3, .int (iI (bI (bq)))), (2, .int (iI (u))), (1, .int (iI (b))), (0, .ref (ad 1))]) hx hb dX6_lastInBatch_98 hl (k := 1) rfl (by decide) (by simp [pR_cat, cat_i, cat_l, cat_r, cat_n]) (fun ls hl => ?_)
                refine lv_goto (tgt := 6) hx hb dX6_lastInBatch_101 (by decide) ?_
                have hnb : kLaB S I b u bq k y = y := by simp only [kLaB, c_3, c_5, c_6, c_7, c_8, c_9, decide_true, decide_false, Bool.true_and, Bool.and_true, Bool.false_and, Bool.and_false, Bool.true_or, Bool.or_true, Bool.false_or, Bool.or_false, Bool.not_true, Bool.not_false, eq_self, if_true, if_false, ite_true, ite_false, Bool.false_eq_true, reduceCtorEq, not_false_eq_true]
                exact ih_lp_1 (k + 1) (y) _ _ _ (by first | omega | (dsimp only; omega)) ⟨⟨⟨by omega, by omega⟩, by rw [show (k + 1).toNat = k.toNat + 1 by omega, kLa_s, show ((k.toNat : Nat) : Int) = k by omega, ← hy, hnb]⟩, hW, lv_sub hl [0, 2, 3, 4, 5, 6] rfl⟩
              · refine lv_aload hx hb dX6_lastInBatch_94 (lv_at hl 0 rfl) ?_
                refine xp_un (k := k) (by omega) ?_
                refine xp_astore (lv' := [(4, pR ad (k)), (6, .ref (ad (1000 + 2 * (k).toNat))), (5, .int (iI (k))), (3, .int (iI (bI (bq)))), (2, .int (iI (u))), (1, .int (iI (b))), (0, .ref (ad 1))]) hx hb dX6_lastInBatch_96 hl (by decide) (by simp [pR_cat, cat_i, cat_l, cat_r, cat_n]) (fun ls hl => ?_)
                refine xi_iinc (lv' := [(5, .int (iI (k + 1))), (4, pR ad (k)), (6, .ref (ad (1000 + 2 * (k).toNat))), (3, .int (iI (bI (bq)))), (2, .int (iI (u))), (1, .int (iI (b))), (0, .ref (ad 1))]) hx hb dX6_lastInBatch_98 hl (k := 2) rfl (by decide) (by simp [pR_cat, cat_i, cat_l, cat_r, cat_n]) (fun ls hl => ?_)
                refine lv_goto (tgt := 6) hx hb dX6_lastInBatch_101 (by decide) ?_
                have hnb : kLaB S I b u bq k y = k := by simp only [kLaB, c_3, c_5, c_6, c_7, c_8, c_9, decide_true, decide_false, Bool.true_and, Bool.and_true, Bool.false_and, Bool.and_false, Bool.true_or, Bool.or_true, Bool.false_or, Bool.or_false, Bool.not_true, Bool.not_false, eq_self, if_true, if_false, ite_true, ite_false, Bool.false_eq_true, reduceCtorEq, not_false_eq_true]
                exact ih_lp_1 (k + 1) (k) _ _ _ (by first | omega | (dsimp only; omega)) ⟨⟨⟨by omega, by omega⟩, by rw [show (k + 1).toNat = k.toNat + 1 by omega, kLa_s, show ((k.toNat : Nat) : Int) = k by omega, ← hy, hnb]⟩, hW, lv_sub hl [0, 1, 3, 4, 5, 6] rfl⟩
        · refine lv_aload hx hb dX6_lastInBatch_63 (lv_at hl 0 rfl) ?_
          refine g_get (ref := RX7) (T := TX7) (N := 9) (ci := 8) hx hb hts wsC_X7 hown hK hW (100000 + (1000 + 2 * (k).toNat)) (kW_at (kC_pay hwf (by omega) (show (k) < S.1 8 0 from by omega))) rfl 1 (by decide) (hts _ lC_X6_101) (fun x h => h) (v := .ref (ad (1001 + 2 * (k).toNat))) rfl dX6_lastInBatch_65 ?_
          refine g_get (ref := RX10) (T := TX10) (N := 9) (ci := 11) hx hb hts wsC_X10 hown hK hW (100000 + (1001 + 2 * (k).toNat)) (kW_at (kC_trm hwf (by omega) (show (k) < S.1 8 0 from by omega))) rfl 1 (by decide) (hts _ lC_X6_85) (fun x h => h) (v := .int (iI (S.1 10 (k)))) rfl dX6_lastInBatch_68 ?_
          have w_10 := wf_10 hwf (k)
          refine lv_iload_n hx hb dX6_lastInBatch_71 rfl (lv_at hl 4 rfl) ?_
          refine xi_icmp_ne (tgt := 98) hx hb ⟨by omega, by omega⟩ ⟨by omega, by omega⟩ dX6_lastInBatch_72 (by decide) (fun c_11 => ?_) (fun c_11 => ?_)
          · refine xi_iinc (lv' := [(5, .int (iI (k + 1))), (6, .ref (ad (1000 + 2 * (k).toNat))), (4, pR ad (y)), (3, .int (iI (bI (bq)))), (2, .int (iI (u))), (1, .int (iI (b))), (0, .ref (ad 1))]) hx hb dX6_lastInBatch_98 hl (k := 1) rfl (by decide) (by simp [pR_cat, cat_i, cat_l, cat_r, cat_n]) (fun ls hl => ?_)
            refine lv_goto (tgt := 6) hx hb dX6_lastInBatch_101 (by decide) ?_
            have hnb : kLaB S I b u bq k y = y := by simp only [kLaB, c_3, c_5, c_6, c_11, decide_true, decide_false, Bool.true_and, Bool.and_true, Bool.false_and, Bool.and_false, Bool.true_or, Bool.or_true, Bool.false_or, Bool.or_false, Bool.not_true, Bool.not_false, eq_self, if_true, if_false, ite_true, ite_false, Bool.false_eq_true, reduceCtorEq, not_false_eq_true]
            exact ih_lp_1 (k + 1) (y) _ _ _ (by first | omega | (dsimp only; omega)) ⟨⟨⟨by omega, by omega⟩, by rw [show (k + 1).toNat = k.toNat + 1 by omega, kLa_s, show ((k.toNat : Nat) : Int) = k by omega, ← hy, hnb]⟩, hW, lv_sub hl [0, 2, 3, 4, 5, 6] rfl⟩
          · refine xp_aload hx hb dX6_lastInBatch_75 (lv_at hl 2 rfl) ?_
            refine xp_ifnull (tgt := 94) hx hb dX6_lastInBatch_77 (by decide) (fun c_12 => ?_) (fun c_12 => ?_)
            · refine lv_aload hx hb dX6_lastInBatch_94 (lv_at hl 0 rfl) ?_
              refine xp_un (k := k) (by omega) ?_
              refine xp_astore (lv' := [(4, pR ad (k)), (6, .ref (ad (1000 + 2 * (k).toNat))), (5, .int (iI (k))), (3, .int (iI (bI (bq)))), (2, .int (iI (u))), (1, .int (iI (b))), (0, .ref (ad 1))]) hx hb dX6_lastInBatch_96 hl (by decide) (by simp [pR_cat, cat_i, cat_l, cat_r, cat_n]) (fun ls hl => ?_)
              refine xi_iinc (lv' := [(5, .int (iI (k + 1))), (4, pR ad (k)), (6, .ref (ad (1000 + 2 * (k).toNat))), (3, .int (iI (bI (bq)))), (2, .int (iI (u))), (1, .int (iI (b))), (0, .ref (ad 1))]) hx hb dX6_lastInBatch_98 hl (k := 2) rfl (by decide) (by simp [pR_cat, cat_i, cat_l, cat_r, cat_n]) (fun ls hl => ?_)
              refine lv_goto (tgt := 6) hx hb dX6_lastInBatch_101 (by decide) ?_
              have hnb : kLaB S I b u bq k y = k := by simp only [kLaB, c_3, c_5, c_6, c_11, c_12, decide_true, decide_false, Bool.true_and, Bool.and_true, Bool.false_and, Bool.and_false, Bool.true_or, Bool.or_true, Bool.false_or, Bool.or_false, Bool.not_true, Bool.not_false, eq_self, if_true, if_false, ite_true, ite_false, Bool.false_eq_true, reduceCtorEq, not_false_eq_true]
              exact ih_lp_1 (k + 1) (k) _ _ _ (by first | omega | (dsimp only; omega)) ⟨⟨⟨by omega, by omega⟩, by rw [show (k + 1).toNat = k.toNat + 1 by omega, kLa_s, show ((k.toNat : Nat) : Int) = k by omega, ← hy, hnb]⟩, hW, lv_sub hl [0, 1, 3, 4, 5, 6] rfl⟩
            · refine lv_iload_n hx hb dX6_lastInBatch_80 rfl (lv_at hl 3 rfl) ?_
              refine xi_ifb_eq (tgt := 94) hx hb dX6_lastInBatch_81 (by decide) (fun c_13 => ?_) (fun c_13 => ?_)
              · refine lv_aload hx hb dX6_lastInBatch_94 (lv_at hl 0 rfl) ?_
                refine xp_un (k := k) (by omega) ?_
                refine xp_astore (lv' := [(4, pR ad (k)), (6, .ref (ad (1000 + 2 * (k).toNat))), (5, .int (iI (k))), (3, .int (iI (bI (bq)))), (2, .int (iI (u))), (1, .int (iI (b))), (0, .ref (ad 1))]) hx hb dX6_lastInBatch_96 hl (by decide) (by simp [pR_cat, cat_i, cat_l, cat_r, cat_n]) (fun ls hl => ?_)
                refine xi_iinc (lv' := [(5, .int (iI (k + 1))), (4, pR ad (k)), (6, .ref (ad (1000 + 2 * (k).toNat))), (3, .int (iI (bI (bq)))), (2, .int (iI (u))), (1, .int (iI (b))), (0, .ref (ad 1))]) hx hb dX6_lastInBatch_98 hl (k := 2) rfl (by decide) (by simp [pR_cat, cat_i, cat_l, cat_r, cat_n]) (fun ls hl => ?_)
                refine lv_goto (tgt := 6) hx hb dX6_lastInBatch_101 (by decide) ?_
                have hnb : kLaB S I b u bq k y = k := by simp only [kLaB, c_3, c_5, c_6, c_11, c_12, c_13, decide_true, decide_false, Bool.true_and, Bool.and_true, Bool.false_and, Bool.and_false, Bool.true_or, Bool.or_true, Bool.false_or, Bool.or_false, Bool.not_true, Bool.not_false, eq_self, if_true, if_false, ite_true, ite_false, Bool.false_eq_true, reduceCtorEq, not_false_eq_true]
                exact ih_lp_1 (k + 1) (k) _ _ _ (by first | omega | (dsimp only; omega)) ⟨⟨⟨by omega, by omega⟩, by rw [show (k + 1).toNat = k.toNat + 1 by omega, kLa_s, show ((k.toNat : Nat) : Int) = k by omega, ← hy, hnb]⟩, hW, lv_sub hl [0, 1, 3, 4, 5, 6] rfl⟩
              · refine lv_aload hx hb dX6_lastInBatch_84 (lv_at hl 0 rfl) ?_
                refine xp_aload hx hb dX6_lastInBatch_86 (lv_at hl 2 rfl) ?_
                refine xp_ref (k := y) (by omega) ?_
                refine g_callV (i := 100000 + (1000 + 2 * (k).toNat)) (As := [.ref (ad (1000 + 2 * (y).toNat))]) (rest := []) K (c_X7_isBehind (k) (y) hwf (by omega) (by omega) (by omega) (by omega)) (cwV 1 hts gC_X6_184 rfl rfl rfl (by decide +kernel) ⟨Nat.le_of_ble_eq_true rfl, Nat.le_of_ble_eq_true rfl⟩) hK hW (kW_at (kC_pay hwf (by omega) (show (k) < S.1 8 0 from by omega))) rfl rfl hl.1 rfl (Nat.le_of_ble_eq_true rfl) dX6_lastInBatch_88 ⟨Nat.le_refl _, Nat.le_refl _⟩ (fun v_ f_ H locs hp hW => ?_)
                obtain ⟨hpv, hpe⟩ := hp
                rw [hpe] at hW
                have hpv : v_ = some (.int (iI (bI (kBeh S k y)))) := hpv
                subst hpv
                refine xi_ifb_eq (tgt := 98) hx hb dX6_lastInBatch_91 (by decide) (fun c_14 => ?_) (fun c_14 => ?_)
                · refine xi_iinc (lv' := [(5, .int (iI (k + 1))), (6, .ref (ad (1000 + 2 * (k).toNat))), (4, pR ad (y)), (3, .int (iI (bI (bq)))), (2, .int (iI (u))), (1, .int (iI (b))), (0, .ref (ad 1))]) hx hb dX6_lastInBatch_98 hl (k := 1) rfl (by decide) (by simp [pR_cat, cat_i, cat_l, cat_r, cat_n]) (fun ls hl => ?_)
                  refine lv_goto (tgt := 6) hx hb dX6_lastInBatch_101 (by decide) ?_
                  have hnb : kLaB S I b u bq k y = y := by simp only [kLaB, c_3, c_5, c_6, c_11, c_12, c_13, c_14, decide_true, decide_false, Bool.true_and, Bool.and_true, Bool.false_and, Bool.and_false, Bool.true_or, Bool.or_true, Bool.false_or, Bool.or_false, Bool.not_true, Bool.not_false, eq_self, if_true, if_false, ite_true, ite_false, Bool.false_eq_true, reduceCtorEq, not_false_eq_true]
                  exact ih_lp_1 (k + 1) (y) _ _ _ (by first | omega | (dsimp only; omega)) ⟨⟨⟨by omega, by omega⟩, by rw [show (k + 1).toNat = k.toNat + 1 by omega, kLa_s, show ((k.toNat : Nat) : Int) = k by omega, ← hy, hnb]⟩, hW, lv_sub hl [0, 2, 3, 4, 5, 6] rfl⟩
                · refine lv_aload hx hb dX6_lastInBatch_94 (lv_at hl 0 rfl) ?_
                  refine xp_un (k := k) (by omega) ?_
                  refine xp_astore (lv' := [(4, pR ad (k)), (6, .ref (ad (1000 + 2 * (k).toNat))), (5, .int (iI (k))), (3, .int (iI (bI (bq)))), (2, .int (iI (u))), (1, .int (iI (b))), (0, .ref (ad 1))]) hx hb dX6_lastInBatch_96 hl (by decide) (by simp [pR_cat, cat_i, cat_l, cat_r, cat_n]) (fun ls hl => ?_)
                  refine xi_iinc (lv' := [(5, .int (iI (k + 1))), (4, pR ad (k)), (6, .ref (ad (1000 + 2 * (k).toNat))), (3, .int (iI (bI (bq)))), (2, .int (iI (u))), (1, .int (iI (b))), (0, .ref (ad 1))]) hx hb dX6_lastInBatch_98 hl (k := 2) rfl (by decide) (by simp [pR_cat, cat_i, cat_l, cat_r, cat_n]) (fun ls hl => ?_)
                  refine lv_goto (tgt := 6) hx hb dX6_lastInBatch_101 (by decide) ?_
                  have hnb : kLaB S I b u bq k y = k := by simp only [kLaB, c_3, c_5, c_6, c_11, c_12, c_13, c_14, decide_true, decide_false, Bool.true_and, Bool.and_true, Bool.false_and, Bool.and_false, Bool.true_or, Bool.or_true, Bool.false_or, Bool.or_false, Bool.not_true, Bool.not_false, eq_self, if_true, if_false, ite_true, ite_false, Bool.false_eq_true, reduceCtorEq, not_false_eq_true]
                  exact ih_lp_1 (k + 1) (k) _ _ _ (by first | omega | (dsimp only; omega)) ⟨⟨⟨by omega, by omega⟩, by rw [show (k + 1).toNat = k.toNat + 1 by omega, kLa_s, show ((k.toNat : Nat) : Int) = k by omega, ← hy, hnb]⟩, hW, lv_sub hl [0, 1, 3, 4, 5, 6] rfl⟩
