/-! the law: its world, its rows, its room -/
theorem kTc_b : ∀ n : Nat, kTc n ≤ 2 * n
  | 0 => by decide
  | n + 1 => by
    have := kTc_b n
    have h : kmc n ≤ 1 := by unfold kmc; split <;> omega
    show kTc n + (1 + kmc n) ≤ 2 * (n + 1)
    omega
theorem kcap_b : ∀ n : Nat, kcap n ≤ n + n / 2 + 10
  | 0 => by decide
  | n + 1 => by
    have := kcap_b n
    unfold kcap
    split
    · split <;> omega
    · omega
theorem kTs_c : ∀ n : Nat, kTs n ≤ 5 * n + 4 * kcap n
  | 0 => by decide
  | n + 1 => by
    have ih := kTs_c n
    have hg := kcap_ge n
    show kTs n + (5 + kms n) ≤ 5 * (n + 1) + 4 * kcap (n + 1)
    unfold kms
    by_cases e : n = kcap n
    · rw [if_pos e]
      have e2 : kcap (n + 1) = if n = 0 then 10 else n + n / 2 := by
        have q : kcap (n + 1) = if n = kcap n then (if n = 0 then 10 else n + n / 2) else kcap n := rfl
        rw [q, if_pos e]
      by_cases z : n = 0
      · rw [e2, if_pos z]
        rw [← e] at ih
        omega
      · rw [e2, if_neg z]
        rw [← e] at ih
        have h10 : 10 ≤ kcap n := by
          have key : ∀ k : Nat, k ≠ 0 → 10 ≤ kcap k := by
            intro k
            induction k with
            | zero => intro h; exact absurd rfl h
            | succ k ihk =>
              intro _
              have q : kcap (k + 1) = if k = kcap k then (if k = 0 then 10 else k + k / 2) else kcap k := rfl
              rw [q]
              by_cases w : k = 0
              · rw [w]; decide
              · have := ihk w
                split
                · omega
                · exact this
          exact key n z
        rw [← e] at h10
        omega
    · rw [if_neg e]
      have e2 : kcap (n + 1) = kcap n := by
        have q : kcap (n + 1) = if n = kcap n then (if n = 0 then 10 else n + n / 2) else kcap n := rfl
        rw [q, if_neg e]
      rw [e2]
      omega
theorem kTs_b (n : Nat) : kTs n ≤ 11 * n + 40 := by
  have h1 := kTs_c n
  have h2 := kcap_b n
  omega
/-- the law's row of one long -/
abbrev outE (cy : Nat → ClassId) (v : Nat → Int64) : va_E := .inl (cy 1, 1, .inr (.inl v))
def lwG (cy : Nat → ClassId) (ix : Nat → Nat) (o : Nat) (S X : ST) (v : Nat → Int64) : gF := fun i => if i = 99999 then some (o, outE cy v) else if i < 99999 then (mC cy ix S X i).map (fun e => (ix (i + 100), e)) else none
def lwK (cy : Nat → ClassId) (ad bk : Nat → Nat) (S : ST) (X : CX) (o : Nat) (v : Nat → Int64) : gF := fun i => if i = 300000 then some (o, outE cy v) else if 100000 ≤ i then kC cy ad bk S X (i - 100000) else none
def lwS (i : Nat) : Nat := if i = 99999 then 300000 else if i = 300000 then 99999 else i
theorem lwS_i (i : Nat) : lwS (lwS i) = i := by
  unfold lwS
  by_cases h : i = 99999
  · rw [if_pos h, if_neg (by decide), if_pos rfl, h]
  · rw [if_neg h]
    by_cases h2 : i = 300000
    · rw [if_pos h2, if_pos rfl, h2]
    · rw [if_neg h2, if_neg h, if_neg h2]
theorem mC_none {cy : Nat → ClassId} {ix : Nat → Nat} {S X : ST} {i : Nat} (h : 37 ≤ i) : mC cy ix S X i = none := by
  have hk : mkind i = 0 := by
    unfold mkind
    split <;> first | rfl | omega
  unfold mC
  rw [if_neg (by omega), hk]
  rfl
theorem kC_far {cy : Nat → ClassId} {ad bk : Nat → Nat} {S : ST} {X : CX} {i : Nat} (hw : wf S) (h : 100000 ≤ i) : kC cy ad bk S X i = none := by
  have h31 := wf_31 hw 0
  have h8 := wf_8 hw 0
  unfold kC
  rw [if_neg (by omega), if_neg (by omega), if_neg (by omega), if_neg (by omega), if_neg (by omega), if_neg (by unfold nP; omega), if_neg (by unfold nE; omega)]
theorem lw_sw {cy : Nat → ClassId} {ix ad bk : Nat → Nat} {S : ST} {X : CX} {S' X' : ST} {o : Nat} {v : Nat → Int64} (hw : wf S) : (fun i => kW cy ad bk S X (lwG cy ix o S' X' v) (lwS i)) = mW cy ix S' X' (lwK cy ad bk S X o v) := by
  funext i
  unfold kW mW lwG lwK lwS
  by_cases h : i = 99999
  · rw [if_pos h, h, if_pos (by decide), if_pos (by decide), mC_none (by decide), kC_far hw (by decide)]
    rfl
  · rw [if_neg h]
    by_cases h2 : i = 300000
    · rw [if_pos h2, h2, if_neg (by decide), if_pos rfl, if_neg (by decide), if_pos rfl]
    · rw [if_neg h2]
      by_cases h3 : 100000 ≤ i
      · rw [if_pos h3, if_neg (by omega), if_neg h2, if_pos h3]
      · rw [if_neg h3, if_neg h, if_pos (by omega), if_pos (by omega)]
theorem gW_sig {D : va_G} {B0 : Nat} {H0 : State} {f : gF} {H : Heap} {locs : List Loc} (h : gW D B0 H0 f H locs) : gW D B0 H0 (fun i => f (lwS i)) H locs := ⟨h.1.via lwS (fun _ _ hq => hq) (fun i j _ _ _ _ e => by rw [← lwS_i i, e, lwS_i]), h.2⟩
theorem toM {D : va_G} {B0 : Nat} {H0 : State} {H : Heap} {locs : List Loc} {cy : Nat → ClassId} {ix ad bk : Nat → Nat} {S : ST} {X : CX} {S' X' : ST} {o : Nat} {v : Nat → Int64} (hw : wf S) (h : gW D B0 H0 (kW cy ad bk S X (lwG cy ix o S' X' v)) H locs) : gW D B0 H0 (mW cy ix S' X' (lwK cy ad bk S X o v)) H locs := by
  have q := gW_sig h
  rw [lw_sw hw] at q
  exact q
theorem toX {D : va_G} {B0 : Nat} {H0 : State} {H : Heap} {locs : List Loc} {cy : Nat → ClassId} {ix ad bk : Nat → Nat} {S : ST} {X : CX} {S' X' : ST} {o : Nat} {v : Nat → Int64} (hw : wf S) (h : gW D B0 H0 (mW cy ix S' X' (lwK cy ad bk S X o v)) H locs) : gW D B0 H0 (kW cy ad bk S X (lwG cy ix o S' X' v)) H locs := by
  rw [← lw_sw hw] at h
  have q := gW_sig h
  have e : (fun i => (fun i => kW cy ad bk S X (lwG cy ix o S' X' v) (lwS i)) (lwS i)) = kW cy ad bk S X (lwG cy ix o S' X' v) := by
    funext i
    show kW cy ad bk S X (lwG cy ix o S' X' v) (lwS (lwS i)) = _
    rw [lwS_i]
  rw [e] at q
  exact q
theorem lwG_o {cy : Nat → ClassId} {ix : Nat → Nat} {o : Nat} {S X : ST} {v : Nat → Int64} : lwG cy ix o S X v 99999 = some (o, outE cy v) := rfl
theorem lwG_n {cy : Nat → ClassId} {ix : Nat → Nat} {o : Nat} {S X : ST} {v : Nat → Int64} {i : Nat} (h : 37 ≤ i) (h2 : i ≠ 99999) : lwG cy ix o S X v i = none := by
  unfold lwG
  rw [if_neg h2, mC_none h]
  split <;> rfl
theorem lwG_up {cy : Nat → ClassId} {ix : Nat → Nat} {o : Nat} {S X : ST} {v w : Nat → Int64} : gup (lwG cy ix o S X v) 99999 o (outE cy w) = lwG cy ix o S X w := by
  funext i
  unfold gup lwG
  by_cases h : i = 99999
  · rw [if_pos h, if_pos h]
  · rw [if_neg h, if_neg h, if_neg h]
theorem gup_id {f : gF} {i a : Nat} {e : va_E} (h : f i = some (a, e)) : gup f i a e = f := by
  funext j
  unfold gup
  by_cases q : j = i
  · rw [if_pos q, q, h]
  · rw [if_neg q]
theorem kW_gup {cy : Nat → ClassId} {ad bk : Nat → Nat} {S : ST} {X : CX} {G : gF} {i a : Nat} {e : va_E} (h : i < 100000) : gup (kW cy ad bk S X G) i a e = kW cy ad bk S X (gup G i a e) := by
  funext j
  by_cases q : j = i
  · subst q
    rw [gup_s]
    unfold kW
    rw [if_neg (by omega), gup_s]
  · rw [gup_n _ _ _ q]
    unfold kW
    rw [gup_n _ _ _ q]
/-- how a helper of the law ends -/
abbrev hpQ (D : va_G) (cy : Nat → ClassId) (ad : Nat → Nat) (S2 : ST) (G : gF) (o : Nat) (code : Int) (val : Int64) (r : Option Value) (g_ : gF) : Prop := r = some (.int (iI code)) ∧ ∃ (ad2 bk2 : Nat → Nat) (I2 : Int → Bool) (c2 q2 : Int → Int64) (v2 : Nat → Int64), ad2 0 = ad 0 ∧ (nP S2 = 0 → ad2 11 = D.1 21) ∧ (nE S2 = 0 → bk2 10 = D.1 21) ∧ (code = 0 → v2 0 = val) ∧ g_ = kW cy ad2 bk2 S2 (I2, c2, q2) (gup G 99999 o (outE cy v2))
theorem sGo_r (a b d : Bool) : 0 ≤ sGo a b d ∧ sGo a b d ≤ 3 := by cases a <;> cases b <;> cases d <;> decide
theorem sGo_n {a b d : Bool} {n : Int} (h : sGo a b d = n) (hn : n ≠ 0) : ¬ (a && b && d) = true := fun q => hn (h.symm.trans ((sGo_0 a b d).mpr q))
/-! rows of methods with a table of handlers -/
section GH
variable {p : Program} {l : Launch} {e : Env} {R : Room} {s : State} {m : MethodId} {args : Array Value} {below : List Frame} {meth : Method} {c : Code} {H : Heap} {locs : List Loc} {cells slots : Nat} {Q : State → Prop}
variable {cc : ByteArray} {pc : Nat} {ls : Array Slot} {rest : List Value}
variable {D : va_G} {cy : Nat → ClassId} {B0 : Nat} {f : gF}
theorem g_startXH {y : MethodName} {ws ws' : List Cond} {fr lo mc ms : Nat} {av : List Value} {post : Option Value → gF → Prop} {px : String → Prop} {maxL : Nat} {ret : Option FieldType} {hh : List (Nat × Nat × Nat × Nat)} (hy : plainName y.cls = true) (hw : ws = Cond.codeWith y cc maxL ret hh :: ws') (hlen : (lg_sl av).length ≤ maxL)
    (body : ∀ (p : Program) (e : Env) (s : State) (m : MethodId) (below : List Frame) (meth : Method) (c : Code) (ls : Array Slot) (H : Heap) (locs : List Loc), CallFix p m c cc maxL s av.toArray ws y.cls → meth.sig.returnType = ret → meth.locks = false → meth.name = y.name → c.exceptionTable.toList = tableOf hh → gK D cy s → gW D B0 s f H locs → lv_has ls maxL (lv_args 0 av) →
      W p l e { frames := fr, cells := mc, slots := ms, locals := lo } s m av.toArray below meth c H locs 0 0 (vx_MQ below (gQ D B0 post) (gXC D B0 f px) av.toArray s mc ms (fun q : Nat => B0 ≤ q)) (F0 m 0 ls [])) : gX l y ws fr lo D cy B0 av f post px mc ms := by
  refine vx_ofWH (cc := cc) (maxL := maxL) (ret := ret) (hh := hh) hy hw ?_
  intro p e s m args below meth c s₁ B hml hv
  obtain ⟨rfl, hB0, hK, hP, hZ⟩ := hv
  have hts := atoms_spec (ws := ws) B.pre
  have hown : s.vm.findClass y.cls = some m.cls := findClass_of_methodNamed B.named
  have ht : c.exceptionTable.toList = tableOf hh := vx_table (x := y) B (hts _ (by rw [hw]; exact List.mem_cons_self))
  rw [lg_entry_eq]
  exact body p e s m below meth c _ s.heap [] ⟨B.exec, B.bytes, hml, hown, hts⟩ B.returns B.notSynchronized (name_of_methodNamed B.named B.method).1 ht hK ⟨hP, va_S.rf, hB0, hZ⟩ (lv_entry av hlen)
theorem g_xcallSH {y : MethodName} {bytes : ByteArray} {maxL nL mc ms n index fr lo : Nat} {ret : Option FieldType} {hh : List (Nat × Nat × Nat × Nat)} {ws Ts : List Cond} {own : String} {As st0 : List Value} {post : Option Value → gF → Prop}
    (S : CallFix p m c cc nL s args Ts own) (hM : gX l y ws fr lo D cy B0 As f post (fun _ => False) mc ms) (cw : vx_CSW R s args own index y bytes maxL ret hh ws { frames := fr, cells := mc, slots := ms, locals := lo } mc ms n)
    (hK : gK D cy s) (hW : gW D B0 s f H locs) (hn : As.length = n) (hsize : ls.size = nL) (hstack : st0 = As.reverse ++ rest) (hR : (rest.map fun v => v.category).sum ≤ 8) (hdg : decode cc pc = .ok (.invokestatic index, 3)) (hf : cells + mc ≤ R.cells ∧ slots + ms ≤ R.slots)
    (kk : ∀ (v : Option Value) (f1 : gF) (H1 : Heap) (locs1 : List Loc), post v f1 → gW D B0 s f1 H1 locs1 → W p l e R s m args below meth c H1 locs1 (cells + mc) (slots + ms) Q (F0 m (pc + 3) ls (v.toList ++ rest))) : W p l e R s m args below meth c H locs cells slots Q (F0 m pc ls st0) := by
  subst hstack
  refine g_callX (post := post) (px := fun _ => False) (aa := As.toArray) (vx_runSX (As := As) (rest := rest) S hM cw ⟨gPc_blind D cy B0 _ f, fun U hU hWU => ⟨rfl, by rw [hU]; exact Nat.le_trans hW.2.2.1 hW.2.1.1, hK.warm hWU, by rw [hU]; exact hW.1, by rw [hU]; exact hW.2.2.2.go hWU.alike (fun a h1 h2 => hW.2.1.2.1 a h1 h2)⟩⟩ rfl hn hsize rfl (lv_room hR) hdg hf) hW (fun _ _ _ _ _ h => h.elim) kk
/-- an int of the script -/
theorem lw_arg {b L : Nat} {xs : Nat → Int32} {k : Nat} {j iz : Int} (hexec : p.tables.exec = Jvm.exec) (hb : c.code = cc) (hX : va_X b L xs s s.heap) (hbl : b < s.heap.size) (hB : B0 = s.heap.size) (hW : gW D B0 s f H locs) (hl0 : ls[0]? = some (.val (.ref b))) (hl4 : ls[4]? = some (.val (.int (iI iz)))) (hi : 0 ≤ iz) (hj0 : 0 ≤ j) (hj : iz + j < L) (hL : L ≤ 5632)
    (d0 : decode cc pc = .ok (.aload_n 0, 1)) (d1 : decode cc (pc + 1) = .ok (.iload 4, 2)) (d3 : (decode cc (pc + 3) = .ok (.iconst j, 1) ∧ k = 4) ∨ (decode cc (pc + 3) = .ok (.bipush j, 2) ∧ k = 5 ∧ (Int8.ofInt j).toInt32 = iI j)) (d4 : decode cc (pc + k) = .ok (.iadd, 1)) (d5 : decode cc (pc + k + 1) = .ok (.iaload, 1)) {z : Int} (hz : (xs (iz + j).toNat).toInt = z)
    (kk : W p l e R s m args below meth c H locs cells slots Q (F0 m (pc + k + 2) ls (.int (iI z) :: rest))) : W p l e R s m args below meth c H locs cells slots Q (F0 m pc ls rest) := by
  refine lv_aload_n hexec hb d0 rfl hl0 ?_
  refine lv_iload hexec hb d1 hl4 ?_
  have en : (iI (iz + j)).toNatClampNeg = (iz + j).toNat := iI_clamp ⟨by omega, by omega⟩
  have fin : W p l e R s m args below meth c H locs cells slots Q (F0 m (pc + k) ls (.int (iI j) :: .int (iI iz) :: .ref b :: rest)) := by
    refine xi_iadd hexec hb d4 ?_
    refine va_sld (A := fun q : Nat => B0 ≤ q) hexec hb hX hbl (by rw [hB]; omega) hW.2.1 (i := iI (iz + j)) (iI_in (by omega) hj (by omega)) d5 ?_
    rw [en]
    have e : iI z = xs (iz + j).toNat := by rw [← hz]; exact Int32.ofInt_toInt _
    rw [e] at kk
    exact kk
  rcases d3 with ⟨d3, hk⟩ | ⟨d3, hk, hv⟩
  · rw [hk] at fin
    exact xi_iconst hexec hb d3 fin
  · rw [hk] at fin
    exact xi_bipush hexec hb d3 hv fin
def bz (x : Int) : Bool := !decide (x = 0)
theorem lw_argB {b L : Nat} {xs : Nat → Int32} {k : Nat} {j iz : Int} (hexec : p.tables.exec = Jvm.exec) (hb : c.code = cc) (hX : va_X b L xs s s.heap) (hbl : b < s.heap.size) (hB : B0 = s.heap.size) (hW : gW D B0 s f H locs) (hl0 : ls[0]? = some (.val (.ref b))) (hl4 : ls[4]? = some (.val (.int (iI iz)))) (hi : 0 ≤ iz) (hj0 : 0 ≤ j) (hj : iz + j < L) (hL : L ≤ 5632)
    (d0 : decode cc pc = .ok (.aload_n 0, 1)) (d1 : decode cc (pc + 1) = .ok (.iload 4, 2)) (d3 : (decode cc (pc + 3) = .ok (.iconst j, 1) ∧ k = 4) ∨ (decode cc (pc + 3) = .ok (.bipush j, 2) ∧ k = 5 ∧ (Int8.ofInt j).toInt32 = iI j)) (d4 : decode cc (pc + k) = .ok (.iadd, 1)) (d5 : decode cc (pc + k + 1) = .ok (.iaload, 1))
    (d6 : decode cc (pc + k + 2) = .ok (.ifCond .eq 7, 3)) (d7 : decode cc (pc + k + 2 + 3) = .ok (.iconst 1, 1)) (d8 : decode cc (pc + k + 2 + 3 + 1) = .ok (.goto 4, 3)) (d9 : decode cc (pc + k + 2 + 7) = .ok (.iconst 0, 1)) {z : Int} (hz : (xs (iz + j).toNat).toInt = z)
    (kk : W p l e R s m args below meth c H locs cells slots Q (F0 m (pc + k + 2 + 8) ls (.int (iI (bI (bz z))) :: rest))) : W p l e R s m args below meth c H locs cells slots Q (F0 m pc ls rest) := by
  refine lw_arg hexec hb hX hbl hB hW hl0 hl4 hi hj0 hj hL d0 d1 d3 d4 d5 hz ?_
  have hr : rI z := by
    rw [← hz]
    exact ⟨by have := Int32.le_toInt (xs (iz + j).toNat); omega, by have := Int32.toInt_lt (xs (iz + j).toNat); omega⟩
  refine xi_if_eq (tgt := pc + k + 2 + 7) hexec hb hr d6 (by omega) (fun h => ?_) (fun h => ?_)
  · refine xi_iconst hexec hb d9 ?_
    have e : bz z = false := by unfold bz; rw [h]; rfl
    rw [e] at kk
    exact kk
  · refine xi_iconst hexec hb d7 ?_
    refine lv_goto (tgt := pc + k + 2 + 8) hexec hb d8 (by omega) ?_
    have e : bz z = true := by unfold bz; rw [decide_eq_false h]; rfl
    rw [e] at kk
    exact kk
end GH
