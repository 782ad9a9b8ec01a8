theorem sBook_a (S : ST) (b o c : Int) (v : Int64) (k : Int) {x : Int} (h1 : x ≠ 3 * b + c) (h2 : x ≠ 3 * o + c) : (sBook S b o c v k).2 1 x = S.2 1 x := by
  unfold sBook sMore
  rw [pL_n _ _ _ _ (Or.inr h2)]
  by_cases h : b = -1
  · rw [sLess_t h, sEnt_2 _ _ _ _ _ _ (by decide)]
  · rw [sLess_f h, pL_n _ _ _ _ (Or.inr h1), sEnt_2 _ _ _ _ _ _ (by decide)]
theorem ch1_31 (S : ST) (b c : Int) : (sCh1 S b c).1 31 0 = S.1 31 0 ∨ (sCh1 S b c).1 31 0 = S.1 31 0 + 1 := by
  unfold sCh1
  split
  · exact Or.inr (sBook_31 ..)
  · exact Or.inl rfl
theorem chg_31 (S : ST) (b c : Int) : (sChg S b c).1 31 0 = (sCh1 S b c).1 31 0 ∨ (sChg S b c).1 31 0 = (sCh1 S b c).1 31 0 + 1 := by
  unfold sChg
  split
  · exact Or.inr (sBook_31 ..)
  · exact Or.inl rfl
theorem chg_a (S : ST) {b c x : Int} (hx : x < 18) (hc : 0 ≤ c ∧ c ≤ 2) (h : x ≠ 3 * b + c) : (sChg S b c).2 1 x = S.2 1 x := by
  unfold sChg
  split <;> (try rw [sBook_a _ _ _ _ _ _ h (by omega)]) <;> unfold sCh1 <;> split <;> first | rw [sBook_a _ _ _ _ _ _ h (by omega)] | rfl
theorem ed3_a (S : ST) {x : Int} (hx : x < 18) : ∀ n : Nat, (n : Int) ≤ x → (foS ed3 S n).2 1 x = S.2 1 x
  | 0, _ => rfl
  | n + 1, h => by
    rw [foS_s]
    show (sChg (foS ed3 S n) ((n : Int) / 3) ((n : Int) % 3)).2 1 x = _
    rw [chg_a _ hx (by omega) (by omega), ed3_a S hx n (by omega)]
theorem ed3_nE (S : ST) {m n : Nat} (h : m ≤ n) : nE (foS ed3 S m) ≤ nE (foS ed3 S n) := by
  refine foS_mono (P := fun _ => True) (g := nE) (fun k x _ => ⟨trivial, ?_⟩) trivial h
  have h1 := ch1_31 x (k / 3) (k % 3)
  have h2 := chg_31 x (k / 3) (k % 3)
  unfold nE
  show _ ≤ ((sChg x (k / 3) (k % 3)).1 31 0).toNat
  omega
theorem ch1_eq {S : ST} (hw : wf S) (b c : Int) : (if 0 < Int64.ofInt (sFee S b c (nP S)) then sBook S b 6 c (Int64.ofInt (sFee S b c (nP S))) (-1) else S) = sCh1 S b c := by
  have h := sFee_r S b c (nP S)
  have h8 := nP_le hw
  unfold sCh1
  by_cases e : 0 < sFee S b c (nP S)
  · rw [if_pos e, if_pos ((l_pos ⟨by omega, by omega⟩).mpr e)]
  · rw [if_neg e, if_neg (fun q => e ((l_pos ⟨by omega, by omega⟩).mp q))]
def balB (S : ST) : Prop := ∀ x : Int, 0 ≤ x → x < 18 → -1000000000000000 ≤ (S.2 1 x).toInt ∧ (S.2 1 x).toInt ≤ 1000000000000000
theorem bel_eq {x : Int64} (h : -1000000000000000 ≤ x.toInt ∧ x.toInt ≤ 1000000000000000) : (if 0 < -x then -x else 0) = (if x < 0 then -x else 0) := by
  obtain ⟨z, hz⟩ : ∃ z, z = x.toInt := ⟨_, rfl⟩
  have hx : x = Int64.ofInt z := by rw [hz, Int64.ofInt_toInt]
  rw [← hz] at h
  have e : 0 < -x ↔ x < 0 := by
    rw [hx, ← ofInt_neg64, l_pos (by omega), l_neg (by omega)]
    omega
  by_cases q : x < 0
  · rw [if_pos q, if_pos (e.mpr q)]
  · rw [if_neg q, if_neg (fun z => q (e.mp z))]
set_option maxHeartbeats 4000000 in
set_option maxRecDepth 100000 in
theorem c_X6_charge_t {l : Launch} {D : va_G} {cy : Nat → ClassId} {B0 : Nat} {ad bk : Nat → Nat} {S : ST} {I : Int → Bool} {cX qX : Int → Int64} {G : gF} (b : Int) (c : Int) (v : Int64) (hwf : wf S) {S2 : ST} (hS2 : (if 0 < v then sBook S b 6 c v (-1) else S) = S2) (hb0 : 0 ≤ b ∧ b ≤ 5)(hc : 0 ≤ c ∧ c ≤ 2) (hG0 : G 50001 = none) (he : S.1 31 0 < 20000) (hE0 : nE S = 0 → bk 10 = D.1 21) : gM l yX6_charge vX6_charge 9 203 D cy B0 [.ref (ad 1), .int (iI (b)), .int (iI (c)), .long (v)] (kW cy ad bk S (I, cX, qX) G) (fun r g_ => r = none ∧ ∃ bk2 : Nat → Nat, (nE S2 = 0 → bk2 10 = D.1 21) ∧ g_ = kW cy ad bk2 S2 (I, cX, qX) G) (kTc (nE S2) - kTc (nE S)) (kTs (nE S2) - kTs (nE S)) := by
  refine g_start (cc := cX6_charge) (maxL := 5) (ret := none) (by decide) rfl (Nat.le_of_ble_eq_true rfl) ?_
  intro p_ e_ s_ m_ be_ me_ co_ ls H locs K hr hlk hnm hK hW hl
  obtain ⟨hx, hb, hml, hown, hts⟩ := id K
  have hl : lv_has ls 5 [(0, .ref (ad 1)), (1, .int (iI (b))), (2, .int (iI (c))), (3, .long (v))] := hl
  refine lv_lload_n hx hb dX6_charge_0 rfl (lv_at hl 3 rfl) ?_
  refine lv_lconst (v := 0) hx hb dX6_charge_1 (by decide) ?_
  refine xi_lcmp_le (tgt := 19) hx hb dX6_charge_2 dX6_charge_3 (by decide) (fun c_1 => ?_) (fun c_1 => ?_)
  · exact W.widen (by first | exact Nat.zero_le _ | exact hcA) (by first | exact Nat.zero_le _ | exact hcB) (g_vret hx hb hr hW ⟨rfl, bk, fun h => hE0 (by rw [← hS2, if_neg (fun h0 => c_1 h0)] at h; exact h), by rw [← hS2, if_neg (fun h0 => c_1 h0)]⟩ dX6_charge_19 hlk)
  · have hcA : 0 + (1 + kmc (nE S)) ≤ kTc (nE S2) - kTc (nE S) := by rw [← hS2, if_pos c_1, nE_book hwf]; show _ ≤ kTc (nE S) + (1 + kmc (nE S)) - kTc (nE S); omega
    have hcB : 0 + (5 + kms (nE S)) ≤ kTs (nE S2) - kTs (nE S) := by rw [← hS2, if_pos c_1, nE_book hwf]; show _ ≤ kTs (nE S) + (5 + kms (nE S)) - kTs (nE S); omega
    refine lv_aload_n hx hb dX6_charge_6 rfl (lv_at hl 0 rfl) ?_
    refine g_get (ref := RX6) (T := TX6) (N := 8) (ci := 7) hx hb hts wsC_X6 hown hK hW (100000 + 1) (kW_at rfl) rfl 1 (by decide) (hts _ lC_X6_21) (fun x h => h) (v := .ref (ad 3)) rfl dX6_charge_7 ?_
    refine lv_iload_n hx hb dX6_charge_10 rfl (lv_at hl 1 rfl) ?_
    refine xi_bipush hx hb dX6_charge_11 (by decide) ?_
    refine lv_iload_n hx hb dX6_charge_13 rfl (lv_at hl 2 rfl) ?_
    refine lv_lload_n hx hb dX6_charge_14 rfl (lv_at hl 3 rfl) ?_
    refine xi_iconst hx hb dX6_charge_15 ?_
    refine g_callV (i := 100000 + 3) (As := [.int (iI (b)), .int (iI (6)), .int (iI (c)), .long (v), .int (iI ((-1)))]) (rest := []) K (c_X0_move (b) (6) (c) (v) ((-1)) hwf ⟨by omega, by omega⟩ ⟨by omega, by omega⟩ ⟨by omega, by omega⟩ ⟨by omega, by omega⟩ hG0 he hE0) (cwV 5 hts gC_X6_241 rfl rfl rfl (by decide +kernel) ⟨Nat.le_of_ble_eq_true rfl, Nat.le_of_ble_eq_true rfl⟩) hK hW (kW_at rfl) rfl rfl hl.1 rfl (Nat.le_of_ble_eq_true rfl) dX6_charge_16 ⟨hcA, hcB⟩ (fun v_ f_ H locs hp hW => ?_)
    obtain ⟨hpv, q, q2, hpe⟩ := hp
    rw [hpe] at hW
    subst hpv
    exact W.widen (by first | exact Nat.zero_le _ | exact hcA) (by first | exact Nat.zero_le _ | exact hcB) (g_vret hx hb hr hW ⟨rfl, _, fun h => by rw [← hS2, if_pos c_1, nE_book hwf] at h; omega, by rw [← hS2, if_pos c_1]⟩ dX6_charge_19 hlk)
theorem fd41_of {S T : ST} (h8 : T.1 8 = S.1 8) (h18 : T.1 18 = S.1 18) (h41 : T.1 41 = S.1 41) (h22 : T.1 22 = S.1 22) (h : fd41 S) : fd41 T := by
  unfold fd41
  rw [h8, h18, h41, h22]
  exact h
set_option maxHeartbeats 4000000 in
set_option maxRecDepth 100000 in
theorem c_X6_chargeBanks {l : Launch} {D : va_G} {cy : Nat → ClassId} {B0 : Nat} {ad bk : Nat → Nat} {S : ST} {I : Int → Bool} {cX qX : Int → Int64} {G : gF}  (hwf : wf S) (ho : okS S) (hfd : fd41 S) (hbal : balB S) (he : S.1 31 0 + cNF S < 19900) (hG0 : G 50001 = none) (hE0 : nE S = 0 → bk 10 = D.1 21) : gM l yX6_chargeBanks vX6_chargeBanks 10 227 D cy B0 [.ref (ad 1)] (kW cy ad bk S (I, cX, qX) G) (fun r g_ => r = none ∧ ∃ bk2 : Nat → Nat, (nE (sEd3 S) = 0 → bk2 10 = D.1 21) ∧ g_ = kW cy ad bk2 (sEd3 S) (I, cX, qX) G) (kTc (nE (sEd3 S)) - kTc (nE S)) (kTs (nE (sEd3 S)) - kTs (nE S)) := by
  refine g_start (cc := cX6_chargeBanks) (maxL := 5) (ret := none) (by decide) rfl (Nat.le_of_ble_eq_true rfl) ?_
  intro p_ e_ s_ m_ be_ me_ co_ ls H locs K hr hlk hnm hK hW hl
  obtain ⟨hx, hb, hml, hown, hts⟩ := id K
  have hl : lv_has ls 5 [(0, .ref (ad 1))] := hl
  refine xi_iconst hx hb dX6_chargeBanks_0 ?_
  refine lv_istore_n (lv' := [(1, .int (iI (0))), (0, .ref (ad 1))]) hx hb dX6_chargeBanks_1 rfl hl (by decide) rfl (fun ls hl => ?_)
  refine w_cs (cells' := kTc (nE S) - kTc (nE S)) (slots' := kTs (nE S) - kTs (nE S)) (Nat.sub_self _).symm (Nat.sub_self _).symm ?_
  refine lp_v3 (Wg := fun (b : Int) (T : ST) (bk1 : Nat → Nat) (H : Heap) (locs : List Loc) (ls : Array Slot) => W p_ l e_ { frames := 10, cells := kTc (nE (sEd3 S)) - kTc (nE S), slots := kTs (nE (sEd3 S)) - kTs (nE S), locals := 227 } s_ m_ ([.ref (ad 1)] : List Value).toArray be_ me_ co_ H locs (kTc (nE T) - kTc (nE S)) (kTs (nE T) - kTs (nE S)) (MQ be_ (gQ D B0 (fun (r : Option Value) (g_ : gF) => r = none ∧ ∃ bk2 : Nat → Nat, (nE (sEd3 S) = 0 → bk2 10 = D.1 21) ∧ g_ = kW cy ad bk2 (sEd3 S) (I, cX, qX) G)) ([.ref (ad 1)] : List Value).toArray s_ (kTc (nE (sEd3 S)) - kTc (nE S)) (kTs (nE (sEd3 S)) - kTs (nE S)) (fun q : Nat => B0 ≤ q)) (F0 m_ 2 ls [])) (fun (b : Int) (T : ST) (bk1 : Nat → Nat) (H : Heap) (locs : List Loc) (ls : Array Slot) => ((0 ≤ b ∧ b ≤ 6) ∧ T = foS ed3 S (3 * b).toNat ∧ (nE T = 0 → bk1 10 = D.1 21)) ∧ gW D B0 s_ (kW cy ad bk1 T (I, cX, qX) G) H locs ∧ lv_has ls 5 [(1, .int (iI (b))), (0, .ref (ad 1))]) (fun (b : Int) (T : ST) (bk1 : Nat → Nat) => (6 - b).toNat) (fun b T bk1 H locs ls hI ih_lp_1 => ?_) (0) (S) (bk) _ _ _ ⟨⟨⟨by decide, by decide⟩, rfl, hE0⟩, hW, lv_sub hl [0, 1] rfl⟩
  obtain ⟨hI_lp_1, hW, hl⟩ := hI
  obtain ⟨hbb, hT, hb1⟩ := hI_lp_1
  have hTe := ed3_all ho (by omega) (3 * b).toNat (by omega)
  rw [← hT] at hTe
  refine lv_iload_n hx hb dX6_chargeBanks_2 rfl (lv_at hl 0 rfl) ?_
  refine xi_bipush hx hb dX6_chargeBanks_3 (by decide) ?_
  refine xi_icmp_ge (tgt := 80) hx hb ⟨by omega, by omega⟩ ⟨by omega, by omega⟩ dX6_chargeBanks_5 (by decide) (fun c_2 => ?_) (fun c_2 => ?_)
  · have hfin : T = sEd3 S := by rw [hT, show b = 6 by omega]; rfl
    exact W.widen (by rw [hfin]; exact Nat.le_refl _) (by rw [hfin]; exact Nat.le_refl _) (g_vret hx hb hr hW ⟨rfl, bk1, fun h => hb1 (by rw [hfin]; exact h), by rw [hfin]⟩ dX6_chargeBanks_80 hlk)
  · refine xi_iconst hx hb dX6_chargeBanks_8 ?_
    refine lv_istore_n (lv' := [(2, .int (iI (0))), (1, .int (iI (b))), (0, .ref (ad 1))]) hx hb dX6_chargeBanks_9 rfl hl (by decide) rfl (fun ls hl => ?_)
    refine w_cs (cells' := kTc (nE T) - kTc (nE S)) (slots' := kTs (nE T) - kTs (nE S)) rfl rfl ?_
    refine lp_v3 (Wg := fun (c : Int) (U : ST) (bk2 : Nat → Nat) (H : Heap) (locs : List Loc) (ls : Array Slot) => W p_ l e_ { frames := 10, cells := kTc (nE (sEd3 S)) - kTc (nE S), slots := kTs (nE (sEd3 S)) - kTs (nE S), locals := 227 } s_ m_ ([.ref (ad 1)] : List Value).toArray be_ me_ co_ H locs (kTc (nE U) - kTc (nE S)) (kTs (nE U) - kTs (nE S)) (MQ be_ (gQ D B0 (fun (r : Option Value) (g_ : gF) => r = none ∧ ∃ bk2 : Nat → Nat, (nE (sEd3 S) = 0 → bk2 10 = D.1 21) ∧ g_ = kW cy ad bk2 (sEd3 S) (I, cX, qX) G)) ([.ref (ad 1)] : List Value).toArray s_ (kTc (nE (sEd3 S)) - kTc (nE S)) (kTs (nE (sEd3 S)) - kTs (nE S)) (fun q : Nat => B0 ≤ q)) (F0 m_ 10 ls [])) (fun (c : Int) (U : ST) (bk2 : Nat → Nat) (H : Heap) (locs : List Loc) (ls : Array Slot) => ((0 ≤ c ∧ c ≤ 3) ∧ U = foS ed3 S (3 * b + c).toNat ∧ (nE U = 0 → bk2 10 = D.1 21)) ∧ gW D B0 s_ (kW cy ad bk2 U (I, cX, qX) G) H locs ∧ lv_has ls 5 [(2, .int (iI (c))), (1, .int (iI (b))), (0, .ref (ad 1))]) (fun (c : Int) (U : ST) (bk2 : Nat → Nat) => (3 - c).toNat) (fun c U bk2 H locs ls hI ih_lp_3 => ?_) (0) (T) (bk1) _ _ _ ⟨⟨⟨by decide, by decide⟩, by rw [hT, show 3 * b + 0 = 3 * b by omega], hb1⟩, hW, lv_sub hl [0, 1, 2] rfl⟩
    obtain ⟨hI_lp_3, hW, hl⟩ := hI
    obtain ⟨hc, hU, hb2⟩ := hI_lp_3
    have hUe := ed3_all ho (by omega) (3 * b + c).toNat (by omega)
    rw [← hU] at hUe
    refine lv_iload_n hx hb dX6_chargeBanks_10 rfl (lv_at hl 0 rfl) ?_
    refine xi_iconst hx hb dX6_chargeBanks_11 ?_
    refine xi_icmp_ge (tgt := 74) hx hb ⟨by omega, by omega⟩ ⟨by omega, by omega⟩ dX6_chargeBanks_12 (by decide) (fun c_4 => ?_) (fun c_4 => ?_)
    · refine xi_iinc (lv' := [(1, .int (iI (b + 1))), (2, .int (iI (c))), (0, .ref (ad 1))]) hx hb dX6_chargeBanks_74 hl (k := 1) rfl (by decide) rfl (fun ls hl => ?_)
      refine lv_goto (tgt := 2) hx hb dX6_chargeBanks_77 (by decide) ?_
      refine w_cs (cells' := kTc (nE U) - kTc (nE S)) (slots' := kTs (nE U) - kTs (nE S)) rfl rfl ?_
      exact ih_lp_1 (b + 1) (U) (bk2) _ _ _ (by first | omega | (dsimp only; omega)) ⟨⟨⟨by omega, by omega⟩, by rw [hU, show c = 3 by omega, show (3 * b + 3).toNat = (3 * (b + 1)).toNat by omega], hb2⟩, hW, lv_sub hl [0, 2] rfl⟩
    · have hU2 : sChg U b c = foS ed3 S (3 * b + (c + 1)).toNat := by rw [show (3 * b + (c + 1)).toNat = (3 * b + c).toNat + 1 by omega, foS_s, ← hU]; show _ = sChg U _ _; rw [show (((3 * b + c).toNat : Nat) : Int) / 3 = b by omega, show (((3 * b + c).toNat : Nat) : Int) % 3 = c by omega]
      have hua : U.2 1 (3 * b + c) = S.2 1 (3 * b + c) := by rw [hU]; exact ed3_a S (by omega) _ (by omega)
      have hm1 := ed3_nE S (m := 0) (n := (3 * b + c).toNat) (by omega)
      rw [← hU] at hm1
      have hm1 : nE S ≤ nE U := hm1
      have hm4 := ed3_nE S (m := (3 * b + (c + 1)).toNat) (n := 18) (by omega)
      rw [← hU2] at hm4
      have hm4 : nE (sChg U b c) ≤ nE (sEd3 S) := hm4
      have h31a := ch1_31 U b c
      have h31b := chg_31 U b c
      have hm2 : nE U ≤ nE (sCh1 U b c) := by unfold nE; omega
      have hm3 : nE (sCh1 U b c) ≤ nE (sChg U b c) := by unfold nE; omega
      have hU31 := hUe.2.2.2.1
      have hUw := wf_0 hUe.1.1 0
      have hcn := cNF_nn S
      have hfr := sFee_r U b c (nP U)
      have hp6 := nP_le hUe.1.1
      have u1 := kTc_le hm1
      have u2 := kTc_le hm2
      have u3 := kTc_le hm3
      have u4 := kTc_le hm4
      have w1 := kTs_le hm1
      have w2 := kTs_le hm2
      have w3 := kTs_le hm3
      have w4 := kTs_le hm4
      have hc1o : wf (sCh1 U b c) := by unfold sCh1; split; exact wf_book hUe.1.1 _ _ _ _ _ (by omega); exact hUe.1.1
      refine lv_aload_n hx hb dX6_chargeBanks_15 rfl (lv_at hl 2 rfl) ?_
      refine g_get (ref := RX6) (T := TX6) (N := 8) (ci := 7) hx hb hts wsC_X6 hown hK hW (100000 + 1) (kW_at rfl) rfl 1 (by decide) (hts _ lC_X6_21) (fun x h => h) (v := .ref (ad 3)) rfl dX6_chargeBanks_16 ?_
      refine lv_iload_n hx hb dX6_chargeBanks_19 rfl (lv_at hl 1 rfl) ?_
      refine lv_iload_n hx hb dX6_chargeBanks_20 rfl (lv_at hl 0 rfl) ?_
      refine g_callV (i := 100000 + 3) (As := [.int (iI (b)), .int (iI (c))]) (rest := []) K (c_X0_balanceOf (b) (c) (hUe.1.1) ⟨by omega, by omega⟩ ⟨by omega, by omega⟩) (cwV 2 hts gC_X6_219 rfl rfl rfl (by decide +kernel) ⟨Nat.le_of_ble_eq_true rfl, Nat.le_of_ble_eq_true rfl⟩) hK hW (kW_at rfl) rfl rfl hl.1 rfl (Nat.le_of_ble_eq_true rfl) dX6_chargeBanks_21 ⟨by dsimp only; omega, by dsimp only; omega⟩ (fun v_ f_ H locs hp hW => ?_)
      obtain ⟨hpv, hpe⟩ := hp
      rw [hpe] at hW
      have hpv : v_ = some (.long (U.2 1 (3 * b + c))) := hpv
      subst hpv
      refine lv_lneg hx hb dX6_chargeBanks_24 ?_
      refine lv_lconst (v := 0) hx hb dX6_chargeBanks_25 (by decide) ?_
      refine va_mmax_long hx hb (by rw [hml]; exact hl.1.symm) hown (hts _ (wsC_sub _ wsCw_436)) (hts _ (wsC_sub _ wsCw_159)) (hts _ (wsC_sub _ wsCw_25)) (hts _ (wsC_sub _ wsCw_160)) (Nat.le_of_ble_eq_true rfl) (Nat.le_of_ble_eq_true rfl) (by dsimp only; omega) (by dsimp only; omega) dX6_chargeBanks_26 ?_
      have hbl : ((if 0 < (-(U.2 1 (3 * b + c))) then (-(U.2 1 (3 * b + c))) else 0)) = sBel U b c := bel_eq (by rw [hua]; exact hbal _ (by omega) (by omega))
      rw [hbl]
      refine lv_lstore_n (lv' := [(3, .long (sBel U b c)), (2, .int (iI (c))), (1, .int (iI (b))), (0, .ref (ad 1))]) hx hb dX6_chargeBanks_29 rfl hl (by decide) rfl (fun ls hl => ?_)
      refine lv_aload_n hx hb dX6_chargeBanks_30 rfl (lv_at hl 3 rfl) ?_
      refine lv_iload_n hx hb dX6_chargeBanks_31 rfl (lv_at hl 2 rfl) ?_
      refine lv_iload_n hx hb dX6_chargeBanks_32 rfl (lv_at hl 1 rfl) ?_
      refine lv_aload_n hx hb dX6_chargeBanks_33 rfl (lv_at hl 3 rfl) ?_
      refine g_get (ref := RX6) (T := TX6) (N := 8) (ci := 7) hx hb hts wsC_X6 hown hK hW (100000 + 1) (kW_at rfl) rfl 2 (by decide) (hts _ lC_X6_28) (fun x h => h) (v := .ref (ad 5)) rfl dX6_chargeBanks_34 ?_
      refine lv_iload_n hx hb dX6_chargeBanks_37 rfl (lv_at hl 2 rfl) ?_
      refine lv_iload_n hx hb dX6_chargeBanks_38 rfl (lv_at hl 1 rfl) ?_
      refine lv_aload_n hx hb dX6_chargeBanks_39 rfl (lv_at hl 3 rfl) ?_
      refine g_get (ref := RX6) (T := TX6) (N := 8) (ci := 7) hx hb hts wsC_X6 hown hK hW (100000 + 1) (kW_at rfl) rfl 0 (by decide) (hts _ lC_X6_12) (fun x h => h) (v := .ref (ad 2)) rfl dX6_chargeBanks_40 ?_
      refine g_get (ref := RX4) (T := TX4) (N := 2) (ci := 5) hx hb hts wsC_X4 hown hK hW (100000 + 2) (kW_at rfl) rfl 0 (by decide) (hts _ lC_X6_68) (fun x h => h) (v := .int (iI (U.1 0 (0)))) rfl dX6_chargeBanks_43 ?_
      have w_5 := wf_0 hUe.1.1 (0)
      refine g_callV (i := 100000 + 5) (As := [.int (iI (b)), .int (iI (c)), .int (iI (U.1 0 (0)))]) (rest := [.int (iI (c)), .int (iI (b)), .ref (ad 1)]) K (c_X8_feesOf (b) (c) (U.1 0 (0)) (hUe.1.1) ⟨by omega, by omega⟩ ⟨by omega, by omega⟩ ⟨by omega, by omega⟩) (cwV 3 hts gC_X6_229 rfl rfl rfl (by decide +kernel) ⟨Nat.le_of_ble_eq_true rfl, Nat.le_of_ble_eq_true rfl⟩) hK hW (kW_at rfl) rfl rfl hl.1 rfl (Nat.le_of_ble_eq_true rfl) dX6_chargeBanks_46 ⟨by dsimp only; omega, by dsimp only; omega⟩ (fun v_ f_ H locs hp hW => ?_)
      obtain ⟨hpv, hpe⟩ := hp
      rw [hpe] at hW
      have hpv : v_ = some (.int (iI (kFee U b c (U.1 0 (0)) (nP U)))) := hpv
      subst hpv
      refine xi_eq (z' := sFee U b c (nP U)) (kFee_s hUe.1.1 (fd41_of (hUe.2.2.2.2 8 (by decide)) (hUe.2.2.2.2 18 (by decide)) (hUe.2.2.2.2 41 (by decide)) (hUe.2.2.2.2 22 (by decide)) hfd) b c) ?_
      refine xi_i2l hx hb ⟨by omega, by omega⟩ dX6_chargeBanks_49 ?_
      refine g_callV (i := 100000 + 1) (As := [.int (iI (b)), .int (iI (c)), .long (Int64.ofInt (sFee U b c (nP U)))]) (rest := []) K (c_X6_charge_t (S := U) (S2 := (sCh1 U b c)) (b) (c) (Int64.ofInt (sFee U b c (nP U))) hUe.1.1 (ch1_eq hUe.1.1 b c) ⟨by omega, by omega⟩ ⟨by omega, by omega⟩ hG0 (by omega) hb2) (cwV 3 hts gC_X6_233 rfl rfl rfl (by decide +kernel) ⟨Nat.le_of_ble_eq_true rfl, Nat.le_of_ble_eq_true rfl⟩) hK hW (kW_at rfl) rfl rfl hl.1 rfl (Nat.le_of_ble_eq_true rfl) dX6_chargeBanks_50 ⟨by dsimp only; omega, by dsimp only; omega⟩ (fun v_ f_ H locs hp hW => ?_)
      obtain ⟨hpv, bk3, hb3, hpe⟩ := hp
      rw [hpe] at hW
      subst hpv
      refine lv_aload_n hx hb dX6_chargeBanks_53 rfl (lv_at hl 3 rfl) ?_
      refine lv_iload_n hx hb dX6_chargeBanks_54 rfl (lv_at hl 2 rfl) ?_
      refine lv_iload_n hx hb dX6_chargeBanks_55 rfl (lv_at hl 1 rfl) ?_
      refine lv_lload_n hx hb dX6_chargeBanks_56 rfl (lv_at hl 0 rfl) ?_
      refine lv_ldc2 (v := 99) hx hb hown (hts _ kC_X6_237) dX6_chargeBanks_57 ?_
      refine lv_ladd hx hb dX6_chargeBanks_60 ?_
      refine lv_ldc2 (v := 100) hx hb hown (hts _ kC_X6_239) dX6_chargeBanks_61 ?_
      refine lv_ldiv hx hb dX6_chargeBanks_64 (by decide) ?_
      refine g_callV (i := 100000 + 1) (As := [.int (iI (b)), .int (iI (c)), .long (((sBel U b c) + 99) / 100)]) (rest := []) K (c_X6_charge_t (S := (sCh1 U b c)) (S2 := (sChg U b c)) (b) (c) (((sBel U b c) + 99) / 100) hc1o rfl ⟨by omega, by omega⟩ ⟨by omega, by omega⟩ hG0 (by omega) hb3) (cwV 3 hts gC_X6_233 rfl rfl rfl (by decide +kernel) ⟨Nat.le_of_ble_eq_true rfl, Nat.le_of_ble_eq_true rfl⟩) hK hW (kW_at rfl) rfl rfl hl.1 rfl (Nat.le_of_ble_eq_true rfl) dX6_chargeBanks_65 ⟨by dsimp only; omega, by dsimp only; omega⟩ (fun v_ f_ H locs hp hW => ?_)
      obtain ⟨hpv, bk4, hb4, hpe⟩ := hp
      rw [hpe] at hW
      subst hpv
      refine xi_iinc (lv' := [(2, .int (iI (c + 1))), (3, .long (sBel U b c)), (1, .int (iI (b))), (0, .ref (ad 1))]) hx hb dX6_chargeBanks_68 hl (k := 1) rfl (by decide) rfl (fun ls hl => ?_)
      refine lv_goto (tgt := 10) hx hb dX6_chargeBanks_71 (by decide) ?_
      refine w_cs (cells' := kTc (nE (sChg U b c)) - kTc (nE S)) (slots' := kTs (nE (sChg U b c)) - kTs (nE S)) (by omega) (by omega) ?_
      exact ih_lp_3 (c + 1) ((sChg U b c)) (bk4) _ _ _ (by first | omega | (dsimp only; omega)) ⟨⟨⟨by omega, by omega⟩, hU2, hb4⟩, hW, lv_sub hl [0, 2, 3] rfl⟩
