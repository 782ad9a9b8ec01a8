/-- the rows of longs of the state -/
theorem kW_r1 {cy : Nat → ClassId} {ad bk : Nat → Nat} {S : ST} {X : CX} {G : gF} {z : Int} {v : Int64} : gup (kW cy ad bk S X G) (100000 + (40 + 1)) (ad (40 + 1)) (cR cy (kLen 1) (lup (kRow S X 1) z v)) = kW cy ad bk (pL S 1 z v) X G := by
  refine kW_up ?_ (fun j hj => kC_rows rfl (pL_f S z v (by decide)) (fun a1 a2 => ?_))
  · have e : kRow (pL S 1 z v) X 1 = lup (kRow S X 1) z v := by
      show (pL S 1 z v).2 1 = lup (S.2 1) z v
      rw [pL_fn]; rfl
    rw [kC_row (by decide), e]
  · have h : j - 40 ≠ 1 := by omega
    unfold kRow
    rw [if_neg h, if_neg h, pL_f S z v (show (4 : Nat) ≠ 1 by decide), pL_1]
theorem kW_r3 {cy : Nat → ClassId} {ad bk : Nat → Nat} {S : ST} {X : CX} {G : gF} {z : Int} {v : Int64} : gup (kW cy ad bk S X G) (100000 + (40 + 3)) (ad (40 + 3)) (cR cy (kLen 3) (lup (kRow S X 3) z v)) = kW cy ad bk (pL S 4 z v) X G := by
  refine kW_up ?_ (fun j hj => kC_rows rfl (pL_f S z v (by decide)) (fun a1 a2 => ?_))
  · have e : kRow (pL S 4 z v) X 3 = lup (kRow S X 3) z v := by
      show (pL S 4 z v).2 4 = lup (S.2 4) z v
      rw [pL_fn]; rfl
    rw [kC_row (by decide), e]
  · have h : j - 40 ≠ 3 := by omega
    unfold kRow
    rw [if_neg h, if_neg h, pL_f S z v (show (1 : Nat) ≠ 4 by decide), pL_1]
/-- the scratch rows: members, changes, flows -/
theorem kW_x12 {cy : Nat → ClassId} {ad bk : Nat → Nat} {S : ST} {I : Int → Bool} {c q : Int → Int64} {G : gF} {g : Int → Int64} {J : Int → Bool} (h : ∀ z, g z = Int64.ofInt (bI (J z))) : gup (kW cy ad bk S (I, c, q) G) (100000 + (40 + 12)) (ad (40 + 12)) (cR cy (kLen 12) g) = kW cy ad bk S (J, c, q) G := by
  refine kW_up ?_ (fun j hj => kC_rows rfl rfl (fun a1 a2 => ?_))
  · have e : kRow S (J, c, q) 12 = g := funext fun z => (h z).symm
    rw [kC_row (by decide), e]
  · have h : j - 40 ≠ 12 := by omega
    unfold kRow
    rw [if_neg h, if_neg h]
theorem kW_x13 {cy : Nat → ClassId} {ad bk : Nat → Nat} {S : ST} {I : Int → Bool} {c q : Int → Int64} {G : gF} {g : Int → Int64} : gup (kW cy ad bk S (I, c, q) G) (100000 + (40 + 13)) (ad (40 + 13)) (cR cy (kLen 13) g) = kW cy ad bk S (I, g, q) G := by
  refine kW_up ?_ (fun j hj => kC_rows rfl rfl (fun a1 a2 => ?_))
  · rw [kC_row (by decide)]; rfl
  · have h : j - 40 ≠ 13 := by omega
    unfold kRow
    rw [if_neg h, if_neg h]
theorem kW_x14 {cy : Nat → ClassId} {ad bk : Nat → Nat} {S : ST} {I : Int → Bool} {c q : Int → Int64} {G : gF} {g : Int → Int64} : gup (kW cy ad bk S (I, c, q) G) (100000 + (40 + 14)) (ad (40 + 14)) (cR cy (kLen 14) g) = kW cy ad bk S (I, c, g) G := by
  refine kW_up ?_ (fun j hj => kC_rows rfl rfl (fun a1 a2 => ?_))
  · rw [kC_row (by decide)]; rfl
  · have h : j - 40 ≠ 14 := by omega
    unfold kRow
    rw [if_neg h, if_neg h]
/-- a payment's field -/
theorem kW_pay {cy : Nat → ClassId} {ad bk : Nat → Nat} {S : ST} {X : CX} {G : gF} {k : Int} (hw : wf S) (h0 : 0 ≤ k) (h1 : k < S.1 8 0) {f : Nat} {x : Int} (hf : isPF f = true) {fs : List Value} (he : fs = payF ad (pI S f k x) k) : gup (kW cy ad bk S X G) (100000 + (1000 + 2 * k.toNat)) (ad (1000 + 2 * k.toNat)) (.inr (8, fs)) = kW cy ad bk (pI S f k x) X G := by
  have hv : f = 18 ∨ f = 21 ∨ f = 40 ∨ f = 19 ∨ f = 41 ∨ f = 42 ∨ f = 24 := by
    simp only [isPF, Bool.or_eq_true, beq_iff_eq] at hf
    omega
  have h8 := wf_8 hw 0
  refine kW_up ?_ (fun j hj => kC_pI ?_ ?_ ?_ ?_ ?_ ?_ ?_)
  · rw [he]
    unfold kC nP
    rw [pI_f S k x (show (8 : Nat) ≠ f by omega), if_neg (by omega), if_neg (by omega), if_neg (by omega), if_neg (by omega), if_neg (by omega), if_pos (by omega), if_pos (by omega), show (((1000 + 2 * k.toNat - 1000) / 2 : Nat) : Int) = k by omega]
  · omega
  · omega
  · omega
  · omega
  · intro _ _ e
    have : rowF (j - 40) = 6 ∨ rowF (j - 40) = 2 ∨ rowF (j - 40) = 3 ∨ rowF (j - 40) = 25 ∨ rowF (j - 40) = 43 ∨ rowF (j - 40) = 44 ∨ rowF (j - 40) = 29 ∨ rowF (j - 40) = 30 ∨ rowF (j - 40) = 5 ∨ rowF (j - 40) = 7 ∨ rowF (j - 40) = 1000 := by
      unfold rowF
      split <;> simp
    omega
  · omega
  · intro a1 a2 _ e
    omega
theorem kW_day {cy : Nat → ClassId} {ad bk : Nat → Nat} {S : ST} {X : CX} {G : gF} {x : Int} : gup (kW cy ad bk S X G) (100000 + 2) (ad 2) (.inr (5, [.int (iI x), .ref (ad 20)])) = kW cy ad bk (pI S 0 0 x) X G := by
  refine kW_up ?_ (fun j hj => kC_pI (by decide) (by decide) (fun h => absurd h hj) (fun _ => by decide) (fun a1 a2 e => ?_) (by decide) (fun _ _ h => absurd h (by decide)))
  · show some (ad 2, Sum.inr (5, [Value.int (iI ((pI S 0 0 x).1 0 0)), Value.ref (ad 20)])) = _
    rw [pI_s]
  · revert e
    unfold rowF
    split <;> simp
theorem kW_dbl {cy : Nat → ClassId} {ad bk : Nat → Nat} {S : ST} {X : CX} {G : gF} {x : Int} : gup (kW cy ad bk S X G) (100000 + 1) (ad 1) (.inr (7, [.ref (ad 2), .ref (ad 3), .ref (ad 5), .ref (ad 6), .ref (ad 30), .ref (ad 31), .int (iI x), .ref (ad 7)])) = kW cy ad bk (pI S 26 0 x) X G := by
  refine kW_up ?_ (fun j hj => kC_pI (by decide) (by decide) (fun _ => by decide) (fun h => absurd h hj) (fun a1 a2 e => ?_) (by decide) (fun _ _ h => absurd h (by decide)))
  · show some (ad 1, Sum.inr (7, [Value.ref (ad 2), Value.ref (ad 3), Value.ref (ad 5), Value.ref (ad 6), Value.ref (ad 30), Value.ref (ad 31), Value.int (iI ((pI S 26 0 x).1 26 0)), Value.ref (ad 7)])) = _
    rw [pI_s]
  · revert e
    unfold rowF
    split <;> simp
theorem kW_G {cy : Nat → ClassId} {ad bk : Nat → Nat} {S : ST} {X : CX} {G : gF} {i : Nat} (h : i < 100000) : kW cy ad bk S X G i = G i := by
  unfold kW
  rw [if_neg (by omega)]
section PRW
variable {p : Program} {l : Launch} {e : Env} {R : Room} {s : State} {m : MethodId} {args : Array Value} {below : List Frame} {meth : Method} {c : Code} {H : Heap} {locs : List Loc} {cells slots : Nat} {Q : State → Prop}
variable {cc : ByteArray} {pc : Nat} {ls : Array Slot} {rest : List Value} {ad bk : Nat → Nat} {k : Int}
theorem xp_ref (h : k ≠ -1) (kk : W p l e R s m args below meth c H locs cells slots Q (F0 m pc ls (.ref (ad (1000 + 2 * k.toNat)) :: rest))) : W p l e R s m args below meth c H locs cells slots Q (F0 m pc ls (pR ad k :: rest)) := by
  rw [pR_r ad h]; exact kk
theorem xp_ifnull (hexec : p.tables.exec = Jvm.exec) (hb : c.code = cc) {off : Int} {tgt : Nat} (hdg : decode cc pc = .ok (.ifnull off, 3)) (ht : (pc : Int) + off = (tgt : Int)) (k1 : k = -1 → W p l e R s m args below meth c H locs cells slots Q (F0 m tgt ls rest)) (k2 : ¬ k = -1 → W p l e R s m args below meth c H locs cells slots Q (F0 m (pc + 3) ls rest)) : W p l e R s m args below meth c H locs cells slots Q (F0 m pc ls (pR ad k :: rest)) := by
  by_cases h : k = -1
  · subst h
    exact lv_ifnullN hexec hb hdg ht (k1 rfl)
  · rw [pR_r ad h]
    exact lv_ifnull hexec hb hdg (k2 h)
theorem xp_ifnonnull (hexec : p.tables.exec = Jvm.exec) (hb : c.code = cc) {off : Int} {tgt : Nat} (hdg : decode cc pc = .ok (.ifnonnull off, 3)) (ht : (pc : Int) + off = (tgt : Int)) (k1 : ¬ k = -1 → W p l e R s m args below meth c H locs cells slots Q (F0 m tgt ls rest)) (k2 : k = -1 → W p l e R s m args below meth c H locs cells slots Q (F0 m (pc + 3) ls rest)) : W p l e R s m args below meth c H locs cells slots Q (F0 m pc ls (pR ad k :: rest)) := by
  by_cases h : k = -1
  · subst h
    exact lv_ifnonnullN hexec hb hdg (k2 rfl)
  · rw [pR_r ad h]
    exact lv_ifnonnull hexec hb hdg ht (k1 h)
theorem xp_aload (hexec : p.tables.exec = Jvm.exec) (hb : c.code = cc) {i : Nat} (hdg : decode cc pc = .ok (.aload i, 2)) (hl : ls[i]? = some (.val (pR ad k))) (kk : W p l e R s m args below meth c H locs cells slots Q (F0 m (pc + 2) ls (pR ad k :: rest))) : W p l e R s m args below meth c H locs cells slots Q (F0 m pc ls rest) := by
  by_cases h : k = -1
  · subst h
    exact lv_aloadN hexec hb hdg hl kk
  · rw [pR_r ad h] at hl kk
    exact lv_aload hexec hb hdg hl kk
theorem xp_aload_n (hexec : p.tables.exec = Jvm.exec) (hb : c.code = cc) {kx : Fin 4} {i : Nat} (hdg : decode cc pc = .ok (.aload_n kx, 1)) (hi : (kx : Nat) = i) (hl : ls[i]? = some (.val (pR ad k))) (kk : W p l e R s m args below meth c H locs cells slots Q (F0 m (pc + 1) ls (pR ad k :: rest))) : W p l e R s m args below meth c H locs cells slots Q (F0 m pc ls rest) := by
  by_cases h : k = -1
  · subst h
    exact lv_aload_nN hexec hb hdg hi hl kk
  · rw [pR_r ad h] at hl kk
    exact lv_aload_n hexec hb hdg hi hl kk
theorem xp_astore (hexec : p.tables.exec = Jvm.exec) (hb : c.code = cc) {i nL : Nat} {lv lv' : List (Nat × Value)} (hdg : decode cc pc = .ok (.astore i, 2)) (h : lv_has ls nL lv) (hn : i < nL) (hl : (i, pR ad k) :: lv.filter (fun q => !(q.1 == i) && !(q.1 + 1 == i && q.2.category == 2)) = lv') (kk : ∀ ls : Array Slot, lv_has ls nL lv' → W p l e R s m args below meth c H locs cells slots Q (F0 m (pc + 2) ls rest)) : W p l e R s m args below meth c H locs cells slots Q (F0 m pc ls (pR ad k :: rest)) := by
  by_cases h0 : k = -1
  · subst h0
    exact lv_astoreN hexec hb hdg h hn hl kk
  · rw [pR_r ad h0] at hl ⊢
    exact lv_astore hexec hb hdg h hn hl kk
theorem xp_astore_n (hexec : p.tables.exec = Jvm.exec) (hb : c.code = cc) {kx : Fin 4} {i nL : Nat} {lv lv' : List (Nat × Value)} (hdg : decode cc pc = .ok (.astore_n kx, 1)) (hi : (kx : Nat) = i) (h : lv_has ls nL lv) (hn : i < nL) (hl : (i, pR ad k) :: lv.filter (fun q => !(q.1 == i) && !(q.1 + 1 == i && q.2.category == 2)) = lv') (kk : ∀ ls : Array Slot, lv_has ls nL lv' → W p l e R s m args below meth c H locs cells slots Q (F0 m (pc + 1) ls rest)) : W p l e R s m args below meth c H locs cells slots Q (F0 m pc ls (pR ad k :: rest)) := by
  by_cases h0 : k = -1
  · subst h0
    exact lv_astore_nN hexec hb hdg hi h hn hl kk
  · rw [pR_r ad h0] at hl ⊢
    exact lv_astore_n hexec hb hdg hi h hn hl kk
end PRW
theorem pR_or (ad : Nat → Nat) (k : Int) : pR ad k = .null ∨ ∃ a, pR ad k = .ref a := by
  unfold pR
  split
  · exact Or.inl rfl
  · exact Or.inr ⟨_, rfl⟩
