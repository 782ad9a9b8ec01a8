/-! what the class's picture does not see: the reference's own officer row, days, recall days, its count and list of finals -/
def kEq (S T : ST) : Prop := T.2 = S.2 ∧ ∀ f : Nat, f ≠ 20 → f ≠ 22 → f ≠ 23 → f ≠ 27 → f ≠ 28 → T.1 f = S.1 f
theorem kC_eqv {cy : Nat → ClassId} {ad bk : Nat → Nat} {S T : ST} {X : CX} {i : Nat} (h : kEq S T) : kC cy ad bk T X i = kC cy ad bk S X i := by
  obtain ⟨h2, h1⟩ := h
  have eP : nP T = nP S := by unfold nP; rw [h1 8 (by decide) (by decide) (by decide) (by decide) (by decide)]
  have eE : nE T = nE S := by unfold nE; rw [h1 31 (by decide) (by decide) (by decide) (by decide) (by decide)]
  have qe : lsE bk T = lsE bk S := by unfold lsE; rw [eE]
  have qp : lsP ad T = lsP ad S := by unfold lsP; rw [eP]
  have eR : ∀ r : Nat, kRow T X r = kRow S X r := by
    intro r
    unfold kRow
    rw [h2, h1 (rowF r) (by unfold rowF; split <;> decide) (by unfold rowF; split <;> decide) (by unfold rowF; split <;> decide) (by unfold rowF; split <;> decide) (by unfold rowF; split <;> decide)]
  have eY : ∀ k : Int, payF ad T k = payF ad S k := by
    intro k
    unfold payF
    rw [h1 18 (by decide) (by decide) (by decide) (by decide) (by decide), h1 21 (by decide) (by decide) (by decide) (by decide) (by decide), h1 40 (by decide) (by decide) (by decide) (by decide) (by decide), h1 19 (by decide) (by decide) (by decide) (by decide) (by decide), h1 41 (by decide) (by decide) (by decide) (by decide) (by decide), h1 42 (by decide) (by decide) (by decide) (by decide) (by decide), h1 24 (by decide) (by decide) (by decide) (by decide) (by decide)]
  have eT : ∀ k : Int, trmF T k = trmF S k := by
    intro k
    unfold trmF
    rw [h1 9 (by decide) (by decide) (by decide) (by decide) (by decide), h1 10 (by decide) (by decide) (by decide) (by decide) (by decide), h1 11 (by decide) (by decide) (by decide) (by decide) (by decide), h1 12 (by decide) (by decide) (by decide) (by decide) (by decide), h1 13 (by decide) (by decide) (by decide) (by decide) (by decide), h1 14 (by decide) (by decide) (by decide) (by decide) (by decide), h1 15 (by decide) (by decide) (by decide) (by decide) (by decide), h1 16 (by decide) (by decide) (by decide) (by decide) (by decide), h1 17 (by decide) (by decide) (by decide) (by decide) (by decide)]
  have eN : ∀ k : Int, entF T k = entF S k := by
    intro k
    unfold entF
    rw [h2]
  have eO : kO ad bk T i = kO ad bk S i := by
    unfold kO
    rw [h1 26 (by decide) (by decide) (by decide) (by decide) (by decide), h1 0 (by decide) (by decide) (by decide) (by decide) (by decide), h1 31 (by decide) (by decide) (by decide) (by decide) (by decide), h1 8 (by decide) (by decide) (by decide) (by decide) (by decide)]
  unfold kC
  rw [eP, eE, qe, qp, eO, eR, eY, eT, eN]
theorem kW_eqv {cy : Nat → ClassId} {ad bk : Nat → Nat} {S T : ST} {X : CX} {G : gF} (h : kEq S T) : kW cy ad bk T X G = kW cy ad bk S X G := by
  funext j
  unfold kW
  rw [kC_eqv h]
/-- what the book has cost when it has n entries: objects and rows, their places -/
def kTc : Nat → Nat
  | 0 => 0
  | n + 1 => kTc n + (1 + kmc n)
def kTs : Nat → Nat
  | 0 => 0
  | n + 1 => kTs n + (5 + kms n)
theorem kTc_le {a b : Nat} (h : a ≤ b) : kTc a ≤ kTc b := by
  induction b with
  | zero => rw [show a = 0 by omega]; exact Nat.le_refl _
  | succ b ih =>
    by_cases e : a = b + 1
    · rw [e]; exact Nat.le_refl _
    · have := ih (by omega)
      show kTc a ≤ kTc b + (1 + kmc b)
      omega
theorem kTs_le {a b : Nat} (h : a ≤ b) : kTs a ≤ kTs b := by
  induction b with
  | zero => rw [show a = 0 by omega]; exact Nat.le_refl _
  | succ b ih =>
    by_cases e : a = b + 1
    · rw [e]; exact Nat.le_refl _
    · have := ih (by omega)
      show kTs a ≤ kTs b + (5 + kms b)
      omega
theorem nE_book {S : ST} (hw : wf S) (b o c : Int) (v : Int64) (k : Int) : nE (sBook S b o c v k) = nE S + 1 := by
  have h31 := wf_31 hw 0
  unfold nE
  rw [sBook_31]
  omega
set_option maxHeartbeats 4000000 in
set_option maxRecDepth 100000 in
theorem c_X6_charge {l : Launch} {D : va_G} {cy : Nat → ClassId} {B0 : Nat} {ad bk : Nat → Nat} {S : ST} {I : Int → Bool} {cX qX : Int → Int64} {G : gF} (b : Int) (c : Int) (v : Int64) (hwf : wf S) (hb0 : 0 ≤ b ∧ b ≤ 5)(hc : 0 ≤ c ∧ c ≤ 2) (hG0 : G 50001 = none) (he : S.1 31 0 < 20000) (hE0 : nE S = 0 → bk 10 = D.1 21) : gM l yX6_charge vX6_charge 9 203 D cy B0 [.ref (ad 1), .int (iI (b)), .int (iI (c)), .long (v)] (kW cy ad bk S (I, cX, qX) G) (fun r g_ => r = none ∧ ∃ bk2 : Nat → Nat, (nE (if 0 < v then sBook S b 6 c v (-1) else S) = 0 → bk2 10 = D.1 21) ∧ g_ = kW cy ad bk2 (if 0 < v then sBook S b 6 c v (-1) else S) (I, cX, qX) G) (1 + kmc (nE S)) (5 + kms (nE S)) := by
  refine g_start (cc := cX6_charge) (maxL := 5) (ret := none) (by decide) rfl (Nat.le_of_ble_eq_true rfl) ?_
  intro p_ e_ s_ m_ be_ me_ co_ ls H locs K hr hlk hnm hK hW hl
  obtain ⟨hx, hb, hml, hown, hts⟩ := id K
  have hl : lv_has ls 5 [(0, .ref (ad 1)), (1, .int (iI (b))), (2, .int (iI (c))), (3, .long (v))] := hl
  refine lv_lload_n hx hb dX6_charge_0 rfl (lv_at hl 3 rfl) ?_
  refine lv_lconst (v := 0) hx hb dX6_charge_1 (by decide) ?_
  refine xi_lcmp_le (tgt := 19) hx hb dX6_charge_2 dX6_charge_3 (by decide) (fun c_1 => ?_) (fun c_1 => ?_)
  · exact W.widen (by first | (show 0 ≤ 1 + kmc (nE S); omega) | (show 0 + (1 + kmc (nE S)) ≤ 1 + kmc (nE S); omega)) (by first | (show 0 ≤ 5 + kms (nE S); omega) | (show 0 + (5 + kms (nE S)) ≤ 5 + kms (nE S); omega)) (g_vret hx hb hr hW ⟨rfl, bk, fun h => hE0 (by rw [if_neg (fun h0 => c_1 h0)] at h; exact h), by rw [if_neg (fun h0 => c_1 h0)]⟩ dX6_charge_19 hlk)
  · refine lv_aload_n hx hb dX6_charge_6 rfl (lv_at hl 0 rfl) ?_
    refine g_get (ref := RX6) (T := TX6) (N := 8) (ci := 7) hx hb hts wsC_X6 hown hK hW (100000 + 1) (kW_at rfl) rfl 1 (by decide) (hts _ lC_X6_21) (fun x h => h) (v := .ref (ad 3)) rfl dX6_charge_7 ?_
    refine lv_iload_n hx hb dX6_charge_10 rfl (lv_at hl 1 rfl) ?_
    refine xi_bipush hx hb dX6_charge_11 (by decide) ?_
    refine lv_iload_n hx hb dX6_charge_13 rfl (lv_at hl 2 rfl) ?_
    refine lv_lload_n hx hb dX6_charge_14 rfl (lv_at hl 3 rfl) ?_
    refine xi_iconst hx hb dX6_charge_15 ?_
    refine g_callV (i := 100000 + 3) (As := [.int (iI (b)), .int (iI (6)), .int (iI (c)), .long (v), .int (iI ((-1)))]) (rest := []) K (c_X0_move (b) (6) (c) (v) ((-1)) hwf ⟨by omega, by omega⟩ ⟨by omega, by omega⟩ ⟨by omega, by omega⟩ ⟨by omega, by omega⟩ hG0 he hE0) (cwV 5 hts gC_X6_241 rfl rfl rfl (by decide +kernel) ⟨Nat.le_of_ble_eq_true rfl, Nat.le_of_ble_eq_true rfl⟩) hK hW (kW_at rfl) rfl rfl hl.1 rfl (Nat.le_of_ble_eq_true rfl) dX6_charge_16 ⟨by show 0 + (1 + kmc (nE S)) ≤ 1 + kmc (nE S); omega, by show 0 + (5 + kms (nE S)) ≤ 5 + kms (nE S); omega⟩ (fun v_ f_ H locs hp hW => ?_)
    obtain ⟨hpv, q, q2, hpe⟩ := hp
    rw [hpe] at hW
    subst hpv
    exact W.widen (by first | (show 0 ≤ 1 + kmc (nE S); omega) | (show 0 + (1 + kmc (nE S)) ≤ 1 + kmc (nE S); omega)) (by first | (show 0 ≤ 5 + kms (nE S); omega) | (show 0 + (5 + kms (nE S)) ≤ 5 + kms (nE S); omega)) (g_vret hx hb hr hW ⟨rfl, _, fun h => by rw [if_pos c_1, nE_book hwf] at h; omega, by rw [if_pos c_1]⟩ dX6_charge_19 hlk)
