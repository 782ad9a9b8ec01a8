/-! the law: its world, its rows, its room -/
theorem kTc_b : ∀ n : Nat, kTc n ≤ 2 * n
  | 0 => by decide
  | n + 1 => by
    have := kTc_b n
    have h : kmc n ≤ 1 := by unfold kmc; split <;> omega
    show kTc n + (1 + kmc n) ≤ 2 * (n + 1)
    omega
theorem kcap_b : ∀ n : Nat, kcap n ≤ n + n / 2 + 10
  | 0 => by decide
  | n + 1 => by
    have := kcap_b n
    unfold kcap
    split
    · split <;> omega
    · omega
theorem kTs_c : ∀ n : Nat, kTs n ≤ 5 * n + 4 * kcap n
  | 0 => by decide
  | n + 1 => by
    have ih := kTs_c n
    have hg := kcap_ge n
    show kTs n + (5 + kms n) ≤ 5 * (n + 1) + 4 * kcap (n + 1)
    unfold kms
    by_cases e : n = kcap n
    · rw [if_pos e]
      have e2 : kcap (n + 1) = if n = 0 then 10 else n + n / 2 := by
        have q : kcap (n + 1) = if n = kcap n then (if n = 0 then 10 else n + n / 2) else kcap n := rfl
        rw [q, if_pos e]
      by_cases z : n = 0
      · rw [e2, if_pos z]
        rw [← e] at ih
        omega
      · rw [e2, if_neg z]
        rw [← e] at ih
        have h10 : 10 ≤ kcap n := by
          have key : ∀ k : Nat, k ≠ 0 → 10 ≤ kcap k := by
            intro k
            induction k with
            | zero => intro h; exact absurd rfl h
            | succ k ihk =>
              intro _
              have q : kcap (k + 1) = if k = kcap k then (if k = 0 then 10 else k + k / 2) else kcap k := rfl
              rw [q]
              by_cases w : k = 0
              · rw [w]; decide
              · have := ihk w
                split
                · omega
                · exact this
          exact key n z
        rw [← e] at h10
        omega
    · rw [if_neg e]
      have e2 : kcap (n + 1) = kcap n := by
        have q : kcap (n + 1) = if n = kcap n then (if n = 0 then 10 else n + n / 2) else kcap n := rfl
        rw [q, if_neg e]
      rw [e2]
      omega
theorem kTs_5 : ∀ n : Nat, 5 * n ≤ kTs n
  | 0 => by decide
  | n + 1 => by
    have ih := kTs_5 n
    show 5 * (n + 1) ≤ kTs n + (5 + kms n)
    omega
theorem kTc_d (n : Nat) : ∀ k : Nat, kTc (n + k) ≤ kTc n + 2 * k
  | 0 => Nat.le_refl _
  | k + 1 => by
    have ih := kTc_d n k
    have h : kmc (n + k) ≤ 1 := by unfold kmc; split <;> omega
    show kTc (n + k) + (1 + kmc (n + k)) ≤ kTc n + 2 * (k + 1)
    omega
theorem cJ_31 {n : Nat} {S T : ST} (hS : cI n S) (h : cJ n S T) : S.1 31 0 ≤ T.1 31 0 ∧ T.1 31 0 ≤ S.1 31 0 + 97 := by
  have w1 := wf_31 hS.1.1.1 0
  have w2 := wf_31 h.1.1.1.1 0
  have c1 := cNF_nn S
  have c2 := cNF_nn T
  have s1 := hS.1.1.2.1
  have w27 := wf_27 hS.1.1.1 0
  have q := h.2.1
  have r := h.2.2
  unfold nE at q
  omega
theorem cJ_room {n : Nat} {S T : ST} (hn : n < 111) (hS : cI n S) (h : cJ n S T) : kTc (nE T) - kTc (nE S) + 16 ≤ 256 ∧ kTs (nE T) - kTs (nE S) + 400 ≤ 27000 := by
  have w1 := wf_31 hS.1.1.1 0
  have w2 := wf_31 h.1.1.1.1 0
  have p := cJ_31 hS h
  have c1 := cNF_nn S
  have c2 := cNF_nn T
  have r := h.1.2.2.2.1
  have e : nE T = nE S + (nE T - nE S) := by unfold nE; omega
  have d := kTc_d (nE S) (nE T - nE S)
  rw [← e] at d
  have t1 := kTs_c (nE T)
  have t2 := kTs_5 (nE S)
  have t3 := kcap_b (nE T)
  have n1 : nE T ≤ nE S + 97 := by unfold nE; omega
  have n2 : nE T ≤ 4200 := by unfold nE; omega
  constructor <;> omega
/-- the class's world, its addresses unsaid -/
def wX (D : va_G) (cy : Nat → ClassId) (x0 : Nat) (S : ST) (G : gF) (f : gF) : Prop := ∃ (ad bk : Nat → Nat) (I : Int → Bool) (c q : Int → Int64), ad 0 = x0 ∧ (nP S = 0 → ad 11 = D.1 21) ∧ (nE S = 0 → bk 10 = D.1 21) ∧ f = kW cy ad bk S (I, c, q) G
theorem gup_id {f : gF} {i a : Nat} {e : va_E} (h : f i = some (a, e)) : gup f i a e = f := by
  funext j
  unfold gup
  by_cases q : j = i
  · rw [if_pos q, q, h]
  · rw [if_neg q]
theorem kW_gup {cy : Nat → ClassId} {ad bk : Nat → Nat} {S : ST} {X : CX} {G : gF} {i a : Nat} {e : va_E} (h : i < 100000) : gup (kW cy ad bk S X G) i a e = kW cy ad bk S X (gup G i a e) := by
  funext j
  by_cases q : j = i
  · subst q
    rw [gup_s]
    unfold kW
    rw [if_neg (by omega), gup_s]
  · rw [gup_n _ _ _ q]
    unfold kW
    rw [gup_n _ _ _ q]
theorem wX_at {D : va_G} {cy : Nat → ClassId} {x0 : Nat} {S : ST} {G f : gF} (h : wX D cy x0 S G f) : ∃ fs : List Value, f 100000 = some (x0, .inr (12, fs)) := by
  obtain ⟨ad, bk, I, c, q, rfl, _, _, rfl⟩ := h
  exact ⟨_, kW_at (i := 0) rfl⟩
theorem wX_G {D : va_G} {cy : Nat → ClassId} {x0 : Nat} {S : ST} {G f : gF} (h : wX D cy x0 S G f) {i : Nat} (hi : i < 100000) : f i = G i := by
  obtain ⟨ad, bk, I, c, q, _, _, _, rfl⟩ := h
  unfold kW
  rw [if_neg (by omega)]
theorem wX_up {D : va_G} {cy : Nat → ClassId} {x0 : Nat} {S : ST} {G f : gF} (h : wX D cy x0 S G f) {i a : Nat} {e : va_E} (hi : i < 100000) : wX D cy x0 S (gup G i a e) (gup f i a e) := by
  obtain ⟨ad, bk, I, c, q, h1, h2, h3, rfl⟩ := h
  exact ⟨ad, bk, I, c, q, h1, h2, h3, kW_gup hi⟩
/-- the law's rows: g, a, b, r, e of ints (0 to 4), f of longs (5) -/
def lLen (i : Nat) : Nat := if i = 0 then 4 else 60
def lG (cy : Nat → ClassId) (q : Nat → Nat) (M : ST) : gF := fun i => if i < 5 then some (q i, .inl (cy 0, lLen i, .inl (fun j => iI (M.1 i j)))) else if i = 5 then some (q 5, .inl (cy 1, 3, .inr (.inl (fun j => M.2 0 j)))) else none
theorem lG_up {cy : Nat → ClassId} {q : Nat → Nat} {M : ST} {i : Nat} (hi : i < 5) {z v : Int} (hz : 0 ≤ z) : gup (lG cy q M) i (q i) (.inl (cy 0, lLen i, .inl (upd (fun j => iI (M.1 i j)) z.toNat (iI v)))) = lG cy q (pI M i z v) := by
  funext k
  by_cases e : k = i
  · subst e
    rw [gup_s]
    unfold lG
    rw [if_pos hi]
    have e2 : (fun j : Nat => iI ((pI M k z v).1 k j)) = upd (fun j : Nat => iI (M.1 k j)) z.toNat (iI v) := by
      funext j
      unfold upd
      by_cases e2 : j = z.toNat
      · rw [if_pos e2, show ((j : Nat) : Int) = z by omega, pI_s]
      · rw [if_neg e2, pI_n _ _ _ _ (Or.inr (by omega))]
    rw [e2]
  · rw [gup_n _ _ _ e]
    unfold lG
    by_cases e5 : k < 5
    · rw [if_pos e5, if_pos e5, pI_f _ _ _ e]
    · rw [if_neg e5, if_neg e5]
      rfl
theorem lG_upL {cy : Nat → ClassId} {q : Nat → Nat} {M : ST} {z : Int} {v : Int64} (hz : 0 ≤ z) : gup (lG cy q M) 5 (q 5) (.inl (cy 1, 3, .inr (.inl (vp_updL (fun j => M.2 0 j) z.toNat v)))) = lG cy q (pL M 0 z v) := by
  funext k
  by_cases e : k = 5
  · subst e
    rw [gup_s]
    unfold lG
    rw [if_neg (by decide), if_pos rfl]
    have e2 : (fun j : Nat => (pL M 0 z v).2 0 j) = vp_updL (fun j : Nat => M.2 0 j) z.toNat v := by
      funext j
      unfold vp_updL
      by_cases e2 : j = z.toNat
      · rw [if_pos e2, show ((j : Nat) : Int) = z by omega, pL_s]
      · rw [if_neg e2, pL_n _ _ _ _ (Or.inr (by omega))]
    rw [e2]
  · rw [gup_n _ _ _ e]
    unfold lG
    by_cases e5 : k < 5
    · rw [if_pos e5, if_pos e5]
      rfl
    · rw [if_neg e5, if_neg e5, if_neg e, if_neg e]
theorem lG_n {cy : Nat → ClassId} {q : Nat → Nat} {M : ST} {i : Nat} (h : 5 < i) : lG cy q M i = none := by
  unfold lG
  rw [if_neg (by omega), if_neg (by omega)]
theorem and_nn (x : Int32) : ∃ z : Int, 0 ≤ z ∧ z ≤ 2147483647 ∧ x &&& iI 2147483647 = iI z := by
  refine ⟨(x &&& iI 2147483647).toInt, ?_, by have := (x &&& iI 2147483647).toInt_lt; omega, (iI_self _).symm⟩
  show 0 ≤ (x &&& iI 2147483647).toBitVec.toInt
  rw [Int32.toBitVec_and]
  have h : (x.toBitVec &&& (iI 2147483647).toBitVec).msb = false := by
    rw [BitVec.msb_and]
    have : (iI 2147483647).toBitVec.msb = false := by decide
    rw [this, Bool.and_false]
  rw [BitVec.toInt_eq_toNat_of_msb h]
  omega
/-! rows of methods with a table of handlers -/
section GH
variable {p : Program} {l : Launch} {e : Env} {R : Room} {s : State} {m : MethodId} {args : Array Value} {below : List Frame} {meth : Method} {c : Code} {H : Heap} {locs : List Loc} {cells slots : Nat} {Q : State → Prop}
variable {cc : ByteArray} {pc : Nat} {ls : Array Slot} {rest : List Value}
variable {D : va_G} {cy : Nat → ClassId} {B0 : Nat} {f : gF}
theorem g_startXH {y : MethodName} {ws ws' : List Cond} {fr lo mc ms : Nat} {av : List Value} {post : Option Value → gF → Prop} {px : String → Prop} {maxL : Nat} {ret : Option FieldType} {hh : List (Nat × Nat × Nat × Nat)} (hy : plainName y.cls = true) (hw : ws = Cond.codeWith y cc maxL ret hh :: ws') (hlen : (lg_sl av).length ≤ maxL)
    (body : ∀ (p : Program) (e : Env) (s : State) (m : MethodId) (below : List Frame) (meth : Method) (c : Code) (ls : Array Slot) (H : Heap) (locs : List Loc), CallFix p m c cc maxL s av.toArray ws y.cls → meth.sig.returnType = ret → meth.locks = false → meth.name = y.name → c.exceptionTable.toList = tableOf hh → gK D cy s → gW D B0 s f H locs → lv_has ls maxL (lv_args 0 av) →
      W p l e { frames := fr, cells := mc, slots := ms, locals := lo } s m av.toArray below meth c H locs 0 0 (vx_MQ below (gQ D B0 post) (gXC D B0 f px) av.toArray s mc ms (fun q : Nat => B0 ≤ q)) (F0 m 0 ls [])) : gX l y ws fr lo D cy B0 av f post px mc ms := by
  refine vx_ofWH (cc := cc) (maxL := maxL) (ret := ret) (hh := hh) hy hw ?_
  intro p e s m args below meth c s₁ B hml hv
  obtain ⟨rfl, hB0, hK, hP, hZ⟩ := hv
  have hts := atoms_spec (ws := ws) B.pre
  have hown : s.vm.findClass y.cls = some m.cls := findClass_of_methodNamed B.named
  have ht : c.exceptionTable.toList = tableOf hh := vx_table (x := y) B (hts _ (by rw [hw]; exact List.mem_cons_self))
  rw [lg_entry_eq]
  exact body p e s m below meth c _ s.heap [] ⟨B.exec, B.bytes, hml, hown, hts⟩ B.returns B.notSynchronized (name_of_methodNamed B.named B.method).1 ht hK ⟨hP, va_S.rf, hB0, hZ⟩ (lv_entry av hlen)
theorem g_xcallSH {y : MethodName} {bytes : ByteArray} {maxL nL mc ms n index fr lo : Nat} {ret : Option FieldType} {hh : List (Nat × Nat × Nat × Nat)} {ws Ts : List Cond} {own : String} {As st0 : List Value} {post : Option Value → gF → Prop}
    (S : CallFix p m c cc nL s args Ts own) (hM : gX l y ws fr lo D cy B0 As f post (fun _ => False) mc ms) (cw : vx_CSW R s args own index y bytes maxL ret hh ws { frames := fr, cells := mc, slots := ms, locals := lo } mc ms n)
    (hK : gK D cy s) (hW : gW D B0 s f H locs) (hn : As.length = n) (hsize : ls.size = nL) (hstack : st0 = As.reverse ++ rest) (hR : (rest.map fun v => v.category).sum ≤ 8) (hdg : decode cc pc = .ok (.invokestatic index, 3)) (hf : cells + mc ≤ R.cells ∧ slots + ms ≤ R.slots)
    (kk : ∀ (v : Option Value) (f1 : gF) (H1 : Heap) (locs1 : List Loc), post v f1 → gW D B0 s f1 H1 locs1 → W p l e R s m args below meth c H1 locs1 (cells + mc) (slots + ms) Q (F0 m (pc + 3) ls (v.toList ++ rest))) : W p l e R s m args below meth c H locs cells slots Q (F0 m pc ls st0) := by
  subst hstack
  refine g_callX (post := post) (px := fun _ => False) (aa := As.toArray) (vx_runSX (As := As) (rest := rest) S hM cw ⟨gPc_blind D cy B0 _ f, fun U hU hWU => ⟨rfl, by rw [hU]; exact Nat.le_trans hW.2.2.1 hW.2.1.1, hK.warm hWU, by rw [hU]; exact hW.1, by rw [hU]; exact hW.2.2.2.go hWU.alike (fun a h1 h2 => hW.2.1.2.1 a h1 h2)⟩⟩ rfl hn hsize rfl (lv_room hR) hdg hf) hW (fun _ _ _ _ _ h => h.elim) kk

end GH
section LR
variable {p : Program} {l : Launch} {e : Env} {R : Room} {s : State} {m : MethodId} {args : Array Value} {below : List Frame} {meth : Method} {c : Code} {H : Heap} {locs : List Loc} {cells slots : Nat} {Q : State → Prop}
variable {cc : ByteArray} {pc : Nat} {ls : Array Slot} {rest : List Value}
variable {D : va_G} {cy : Nat → ClassId} {B0 : Nat} {f : gF}
theorem l_ild {q : Nat → Nat} {M : ST} {x0 : Nat} {S : ST} (hexec : p.tables.exec = Jvm.exec) (hb : c.code = cc) (hK : gK D cy s) (hF : wX D cy x0 S (lG cy q M) f) (hW : gW D B0 s f H locs) {i : Nat} (hi : i < 5) {z : Int} (h0 : 0 ≤ z) (h1 : z < lLen i) (hdg : decode cc pc = .ok (.iaload, 1))
    (kk : W p l e R s m args below meth c H locs cells slots Q (F0 m (pc + 1) ls (.int (iI (M.1 i z)) :: rest))) : W p l e R s m args below meth c H locs cells slots Q (F0 m pc ls (.int (iI z) :: .ref (q i) :: rest)) := by
  have hl : lLen i ≤ 60 := by unfold lLen; split <;> omega
  refine g_iald hexec hb hK hW i ((wX_G hF (by omega)).trans (if_pos hi)) (iI_in h0 h1 (by omega)) hdg ?_
  rw [iI_clamp ⟨by omega, by omega⟩]
  show W p l e R s m args below meth c H locs cells slots Q (F0 m (pc + 1) ls (.int (iI (M.1 i ((z.toNat : Nat) : Int))) :: rest))
  rw [Int.toNat_of_nonneg h0]
  exact kk
theorem l_ist {q : Nat → Nat} {M : ST} {x0 : Nat} {S : ST} (hexec : p.tables.exec = Jvm.exec) (hb : c.code = cc) (hK : gK D cy s) (hF : wX D cy x0 S (lG cy q M) f) (hW : gW D B0 s f H locs) {i : Nat} (hi : i < 5) {z v : Int} (h0 : 0 ≤ z) (h1 : z < lLen i) (hdg : decode cc pc = .ok (.iastore, 1))
    (kk : ∀ (f : gF) (H : Heap) (locs : List Loc), wX D cy x0 S (lG cy q (pI M i z v)) f → gW D B0 s f H locs → W p l e R s m args below meth c H locs cells slots Q (F0 m (pc + 1) ls rest)) : W p l e R s m args below meth c H locs cells slots Q (F0 m pc ls (.int (iI v) :: .int (iI z) :: .ref (q i) :: rest)) := by
  have hl : lLen i ≤ 60 := by unfold lLen; split <;> omega
  refine g_iast hexec hb hK hW i ((wX_G hF (by omega)).trans (if_pos hi)) (iI_in h0 h1 (by omega)) hdg (fun H1 locs1 hW1 => ?_)
  have hF1 := wX_up hF (i := i) (a := q i) (e := .inl (cy 0, lLen i, .inl (upd (fun j => iI (M.1 i j)) (iI z).toNatClampNeg (iI v)))) (by omega)
  have e : gup (lG cy q M) i (q i) (.inl (cy 0, lLen i, .inl (upd (fun j => iI (M.1 i j)) (iI z).toNatClampNeg (iI v)))) = lG cy q (pI M i z v) := by
    rw [iI_clamp ⟨by omega, by omega⟩]
    exact lG_up hi h0
  rw [e] at hF1
  exact kk _ H1 locs1 hF1 hW1
theorem l_lld {q : Nat → Nat} {M : ST} {x0 : Nat} {S : ST} (hexec : p.tables.exec = Jvm.exec) (hb : c.code = cc) (hK : gK D cy s) (hF : wX D cy x0 S (lG cy q M) f) (hW : gW D B0 s f H locs) {z : Int} (h0 : 0 ≤ z) (h1 : z < 3) (hdg : decode cc pc = .ok (.laload, 1))
    (kk : W p l e R s m args below meth c H locs cells slots Q (F0 m (pc + 1) ls (.long (M.2 0 z) :: rest))) : W p l e R s m args below meth c H locs cells slots Q (F0 m pc ls (.int (iI z) :: .ref (q 5) :: rest)) := by
  refine g_lald hexec hb hK hW 5 ((wX_G hF (by decide)).trans rfl) (iI_in (n := 3) h0 h1 (by omega)) hdg ?_
  rw [iI_clamp ⟨by omega, by omega⟩]
  show W p l e R s m args below meth c H locs cells slots Q (F0 m (pc + 1) ls (.long (M.2 0 ((z.toNat : Nat) : Int)) :: rest))
  rw [Int.toNat_of_nonneg h0]
  exact kk
theorem l_lst {q : Nat → Nat} {M : ST} {x0 : Nat} {S : ST} (hexec : p.tables.exec = Jvm.exec) (hb : c.code = cc) (hK : gK D cy s) (hF : wX D cy x0 S (lG cy q M) f) (hW : gW D B0 s f H locs) {z : Int} {v : Int64} (h0 : 0 ≤ z) (h1 : z < 3) (hdg : decode cc pc = .ok (.lastore, 1))
    (kk : ∀ (f : gF) (H : Heap) (locs : List Loc), wX D cy x0 S (lG cy q (pL M 0 z v)) f → gW D B0 s f H locs → W p l e R s m args below meth c H locs cells slots Q (F0 m (pc + 1) ls rest)) : W p l e R s m args below meth c H locs cells slots Q (F0 m pc ls (.long v :: .int (iI z) :: .ref (q 5) :: rest)) := by
  refine g_last hexec hb hK hW 5 ((wX_G hF (by decide)).trans rfl) (iI_in (n := 3) h0 h1 (by omega)) hdg (fun H1 locs1 hW1 => ?_)
  have hF1 := wX_up hF (i := 5) (a := q 5) (e := .inl (cy 1, 3, .inr (.inl (vp_updL (fun j => M.2 0 j) (iI z).toNatClampNeg v)))) (by decide)
  have e : gup (lG cy q M) 5 (q 5) (.inl (cy 1, 3, .inr (.inl (vp_updL (fun j => M.2 0 j) (iI z).toNatClampNeg v)))) = lG cy q (pL M 0 z v) := by
    rw [iI_clamp ⟨by omega, by omega⟩]
    exact lG_upL h0
  rw [e] at hF1
  exact kk _ H1 locs1 hF1 hW1
theorem xi_ishr (hexec : p.tables.exec = Jvm.exec) (hb : c.code = cc) {x y : Int32} (hdg : decode cc pc = .ok (.ishr, 1))
    (k : ∀ z : Int, rI z → W p l e R s m args below meth c H locs cells slots Q (F0 m (pc + 1) ls (.int (iI z) :: rest))) : W p l e R s m args below meth c H locs cells slots Q (F0 m pc ls (.int y :: .int x :: rest)) := by
  refine lv_ishr hexec hb hdg ?_
  obtain ⟨z, hz, e⟩ := iI_ex (x >>> (y &&& 31))
  rw [e]
  exact k z hz
/-! the script -/
def gPcA (D : va_G) (cy : Nat → ClassId) (B0 b L : Nat) (xs : Nat → Int32) (av : List Value) (f : gF) : Array Value → State → Prop := va_Pc av (fun U => B0 ≤ U.heap.size ∧ gK D cy U ∧ gP D B0 f U.heap ∧ gZ D B0 U U.heap ∧ b < B0 ∧ va_X b L xs U U.heap)
theorem gPcA_blind (D : va_G) (cy : Nat → ClassId) (B0 b L : Nat) (xs : Nat → Int32) (av : List Value) (f : gF) : FrameBlind (gPcA D cy B0 b L xs av f) := fun _ U g mk q => ⟨q.1, q.2.1, q.2.2.1.calling, q.2.2.2.1, gZ.go (u := U) (U := U.calling g mk _) q.2.2.2.2.1 (Vm.Alike.refl U.vm) (fun _ _ _ => rfl), q.2.2.2.2.2.1, va_X.moved (u := U) (U := U.calling g mk _) (Vm.Alike.refl U.vm) q.2.2.2.2.2.2⟩
theorem g_startA {y : MethodName} {ws ws' : List Cond} {fr lo mc ms b L : Nat} {xs : Nat → Int32} {av : List Value} {post : Option Value → gF → Prop} {maxL : Nat} {ret : Option FieldType} (hy : plainName y.cls = true) (hw : ws = Cond.code y cc maxL ret :: ws') (hlen : (lg_sl av).length ≤ maxL)
    (body : ∀ (p : Program) (e : Env) (s : State) (m : MethodId) (below : List Frame) (meth : Method) (c : Code) (ls : Array Slot) (H : Heap) (locs : List Loc), CallFix p m c cc maxL s av.toArray ws y.cls → meth.sig.returnType = ret → meth.locks = false → gK D cy s → gW D B0 s f H locs → b < B0 → va_X b L xs s s.heap → lv_has ls maxL (lv_args 0 av) →
      W p l e { frames := fr, cells := mc, slots := ms, locals := lo } s m av.toArray below meth c H locs 0 0 (MQ below (gQ D B0 post) av.toArray s mc ms (fun q : Nat => B0 ≤ q)) (F0 m 0 ls [])) : Met l y ws { frames := fr, cells := mc, slots := ms, locals := lo } (gPcA D cy B0 b L xs av f) (gQ D B0 post) mc ms (fun q : Nat => B0 ≤ q) := by
  refine Met.ofW (cc := cc) (maxL := maxL) (ret := ret) hy hw ?_
  intro p e s m args below meth c s₁ B hml hv
  obtain ⟨rfl, hB0, hK, hP, hZ, hbB, hX⟩ := hv
  have hts := atoms_spec (ws := ws) B.pre
  have hown : s.vm.findClass y.cls = some m.cls := findClass_of_methodNamed B.named
  rw [lg_entry_eq]
  exact body p e s m below meth c _ s.heap [] ⟨B.exec, B.bytes, hml, hown, hts⟩ B.returns B.notSynchronized hK ⟨hP, va_S.rf, hB0, hZ⟩ hbB hX (lv_entry av hlen)
theorem g_callA {y : MethodName} {bytes : ByteArray} {maxL nL mc ms n index fr lo b L : Nat} {xs : Nat → Int32} {ret : Option FieldType} {ws Ts : List Cond} {own : String} {As st0 : List Value} {post : Option Value → gF → Prop}
    (S : CallFix p m c cc nL s args Ts own) (hM : Met l y ws { frames := fr, cells := mc, slots := ms, locals := lo } (gPcA D cy B0 b L xs As f) (gQ D B0 post) mc ms (fun q : Nat => B0 ≤ q)) (cw : CallB R s args own index y bytes maxL ret ws { frames := fr, cells := mc, slots := ms, locals := lo } mc ms n ∧ (Cond.static y).before args s = true)
    (hK : gK D cy s) (hW : gW D B0 s f H locs) (hbB : b < B0) (hX : va_X b L xs s s.heap) (hn : As.length = n) (hsize : ls.size = nL) (hstack : st0 = As.reverse ++ rest) (hR : (rest.map fun v => v.category).sum ≤ 8) (hdg : decode cc pc = .ok (.invokestatic index, 3)) (hf : cells + mc ≤ R.cells ∧ slots + ms ≤ R.slots)
    (kk : ∀ (v : Option Value) (f1 : gF) (H1 : Heap) (locs1 : List Loc), post v f1 → gW D B0 s f1 H1 locs1 → W p l e R s m args below meth c H1 locs1 (cells + mc) (slots + ms) Q (F0 m (pc + 3) ls (v.toList ++ rest))) : W p l e R s m args below meth c H locs cells slots Q (F0 m (pc) ls (st0)) := by
  subst hstack
  refine g_call (post := post) (aa := As.toArray) (va_runS (As := As) (rest := rest) S hM cw ⟨gPcA_blind D cy B0 b L xs _ f, fun U hU hWU => ⟨rfl, by rw [hU]; exact Nat.le_trans hW.2.2.1 hW.2.1.1, hK.warm hWU, by rw [hU]; exact hW.1, by rw [hU]; exact hW.2.2.2.go hWU.alike (fun a h1 h2 => hW.2.1.2.1 a h1 h2), hbB, by rw [hU]; exact va_X.moved hWU.alike (hX.kept (hW.2.1.2.1 b (Nat.lt_of_lt_of_le hbB hW.2.2.1) (by omega)))⟩⟩ rfl hn hsize rfl (lv_room hR) hdg hf) hW kk
end LR
section LR16
variable {p : Program} {l : Launch} {e : Env} {R : Room} {s : State} {m : MethodId} {args : Array Value} {below : List Frame} {meth : Method} {c : Code} {H : Heap} {locs : List Loc} {cells slots : Nat} {Q : State → Prop}
variable {cc : ByteArray} {pc : Nat} {ls : Array Slot} {rest : List Value}
variable {D : va_G} {cy : Nat → ClassId} {B0 : Nat} {f : gF}
/-- a static call over up to 16 words of the stack -/
theorem l_run16 {y : MethodName} {bytes : ByteArray} {maxL nL mc ms n index : Nat} {ret : Option FieldType} {ws Ts : List Cond} {own : String} {As : List Value} {rm : Room} {g : JFrame} {Pc : Array Value → State → Prop} {Qc : Array Value → State → Outcome → State → Prop} {free : Addr → Prop} (h16 : 16 + (maxL + 11) + rm.locals ≤ R.locals)
    (S : CallFix p m c cc nL s args Ts own) (hM : Met l y ws rm Pc Qc mc ms free) (cw : CallB R s args own index y bytes maxL ret ws rm mc ms n ∧ (Cond.static y).before args s = true) (hp : PreS s H Pc As)
    (hg : g.method = m) (hn : As.length = n) (hsize : g.locals.size = nL) (hstack : g.stack = As.reverse ++ rest) (hW : 2 * g.monitorRoom + (rest.map fun v => v.category).sum ≤ 16) (hdg : decode cc g.pc = .ok (.invokestatic index, 3)) (hf : cells + mc ≤ R.cells ∧ slots + ms ≤ R.slots) :
    va_Run p l e R s m args below meth c H locs cells slots mc ms g rest (Qc As.toArray) (free) := by
  obtain ⟨⟨hrc, hrs, hfr, -, hws, hcw, hcode, hini, hy, hlen, hl⟩, hstt⟩ := cw
  have hK : Back l R p e below s args y 3 16 (PreOf R mc ms Pc) (PostOf Qc mc ms free) := back_of (bytes := bytes) (maxL := maxL) (ret := ret) hM hp.1 hrc hrs hfr h16 hws hcw (fun a' U hW => word_at hW (Or.inl (by first | rfl | simp [Cond.onTables, Cond.keeps, Cond.steady])) hini)
  obtain ⟨hx, hb, hml, ho, -⟩ := S
  intro T hT X
  obtain ⟨v, vm₁, ⟨U', l2, c2, s2⟩, hW₁, X', ⟨g', mk, t, L, e1, e2, hq, h1, hL, h2, h3⟩, st⟩ := callS X hx (bytes := bytes) (maxL := maxL) (ret := ret) ho hl hstt hini hcode hy hK hg (hsize.trans hml.symm) (argsL := As) (rest := rest) (fun sig h => hn.trans (hlen sig h)) hstack hW (by rw [hb]; exact hdg)
    (fun vm₁ hW₁ => ⟨hf.1, hf.2, hp.2 (T.setVm vm₁) hT hW₁⟩)
  dsimp only [Pt.U, Pt.locs, Pt.cells, Pt.slots] at X' e1 e2 h1 h2 h3 st
  subst h1; subst h2; subst h3
  exact ⟨v, (T.setVm vm₁).calling g' mk As.toArray, t, U', L, hT, X', hL, e1, e2, hq, st⟩
theorem l_call16 {y : MethodName} {bytes : ByteArray} {maxL nL mc ms n index fr lo : Nat} {ret : Option FieldType} {ws Ts : List Cond} {own : String} {As st0 : List Value} {post : Option Value → gF → Prop} (h16 : 16 + (maxL + 11) + lo ≤ R.locals)
    (S : CallFix p m c cc nL s args Ts own) (hM : gM l y ws fr lo D cy B0 As f post mc ms) (cw : CallB R s args own index y bytes maxL ret ws { frames := fr, cells := mc, slots := ms, locals := lo } mc ms n ∧ (Cond.static y).before args s = true)
    (hK : gK D cy s) (hW : gW D B0 s f H locs) (hn : As.length = n) (hsize : ls.size = nL) (hstack : st0 = As.reverse ++ rest) (hR : (rest.map fun v => v.category).sum ≤ 16) (hdg : decode cc pc = .ok (.invokestatic index, 3)) (hf : cells + mc ≤ R.cells ∧ slots + ms ≤ R.slots)
    (kk : ∀ (v : Option Value) (f1 : gF) (H1 : Heap) (locs1 : List Loc), post v f1 → gW D B0 s f1 H1 locs1 → W p l e R s m args below meth c H1 locs1 (cells + mc) (slots + ms) Q (F0 m (pc + 3) ls (v.toList ++ rest))) : W p l e R s m args below meth c H locs cells slots Q (F0 m (pc) ls (st0)) := by
  subst hstack
  refine g_call (post := post) (aa := As.toArray) (l_run16 (As := As) (rest := rest) h16 S hM cw ⟨gPc_blind D cy B0 _ f, fun U hU hWU => ⟨rfl, by rw [hU]; exact Nat.le_trans hW.2.2.1 hW.2.1.1, hK.warm hWU, by rw [hU]; exact hW.1, by rw [hU]; exact hW.2.2.2.go hWU.alike (fun a h1 h2 => hW.2.1.2.1 a h1 h2)⟩⟩ rfl hn hsize rfl (by show 2 * 0 + _ ≤ 16; omega) hdg hf) hW kk
end LR16
set_option maxHeartbeats 4000000 in
theorem c_L_at {l : Launch} {D : va_G} {cy : Nat → ClassId} {B0 b L : Nat} {xs : Nat → Int32} {f : gF} (k : Int) (hk : 0 ≤ k ∧ k ≤ 100000) (hL : L ≤ 100000) : Met l yL_at vL_at { frames := 0, cells := 0, slots := 0, locals := 0 } (gPcA D cy B0 b L xs [.ref b, .int (iI k)] f) (gQ D B0 (fun r g_ => ∃ z : Int, rI z ∧ r = some (.int (iI z)) ∧ g_ = f)) 0 0 (fun q : Nat => B0 ≤ q) := by
  refine g_startA (cc := cL_at) (maxL := 2) (ret := (some .int)) (by decide) rfl (Nat.le_of_ble_eq_true rfl) ?_
  intro p_ e_ s_ m_ be_ me_ co_ ls H locs K hr hlk hK hW hbB hX hl
  obtain ⟨hx, hb, hml, hown, hts⟩ := id K
  have hl : lv_has ls 2 [(0, .ref b), (1, .int (iI k))] := hl
  have hbl : b < s_.heap.size := Nat.lt_of_lt_of_le hbB hW.2.2.1
  have e : ∀ x : Int32, ∃ z : Int, rI z ∧ some (Value.int x) = some (.int (iI z)) ∧ f = f := fun x => by
    obtain ⟨z, hz, q⟩ := iI_ex x
    exact ⟨z, hz, by rw [q], rfl⟩
  refine lv_iload_n hx hb dL_at_0 rfl (lv_at hl 1 rfl) ?_
  refine lv_aload_n hx hb dL_at_1 rfl (lv_at hl 0 rfl) ?_
  refine va_slen (A := fun q : Nat => B0 ≤ q) hx hb hX hbl (by omega) hW.2.1 dL_at_2 ?_
  have eL : Int32.ofNat L = iI (L : Int) := iI_nI L
  rw [eL]
  refine xi_icmp_ge (tgt := 12) hx hb ⟨by omega, by omega⟩ ⟨by omega, by omega⟩ dL_at_3 (by decide) (fun c_1 => ?_) (fun c_1 => ?_)
  · refine xi_ldc hx hb 1239799739 (by decide) hown (hts _ kL_7) dL_at_12 ?_
    refine lv_iload_n hx hb dL_at_14 rfl (lv_at hl 1 rfl) ?_
    refine xi_iconst hx hb dL_at_15 ?_
    refine xi_iadd hx hb dL_at_16 ?_
    refine xi_imul hx hb dL_at_17 ?_
    refine xi_ldc hx hb 1640212981 (by decide) hown (hts _ kL_8) dL_at_18 ?_
    refine xi_iadd hx hb dL_at_20 ?_
    exact g_iret hx hb hr hW (e _) dL_at_21 hlk
  · refine lv_aload_n hx hb dL_at_6 rfl (lv_at hl 0 rfl) ?_
    refine lv_iload_n hx hb dL_at_7 rfl (lv_at hl 1 rfl) ?_
    refine va_sld (A := fun q : Nat => B0 ≤ q) hx hb hX hbl (by omega) hW.2.1 (i := iI k) (iI_in hk.1 c_1 (by omega)) dL_at_8 ?_
    refine lv_goto (tgt := 21) hx hb dL_at_9 (by decide) ?_
    exact g_iret hx hb hr hW (e _) dL_at_21 hlk
set_option maxHeartbeats 4000000 in
theorem c_L_low {l : Launch} {D : va_G} {cy : Nat → ClassId} {B0 : Nat} {f : gF} (v n : Int) (hv : rI v) (hn : 0 < n ∧ n ≤ 100000) : gM l yL_low vL_low 0 0 D cy B0 [.int (iI v), .int (iI n)] f (fun r g_ => ∃ z : Int, 0 ≤ z ∧ z < n ∧ r = some (.int (iI z)) ∧ g_ = f) 0 0 := by
  refine g_start (cc := cL_low) (maxL := 2) (ret := (some .int)) (by decide) rfl (Nat.le_of_ble_eq_true rfl) ?_
  intro p_ e_ s_ m_ be_ me_ co_ ls H locs K hr hlk hnm hK hW hl
  obtain ⟨hx, hb, hml, hown, hts⟩ := id K
  have hl : lv_has ls 2 [(0, .int (iI v)), (1, .int (iI n))] := hl
  refine lv_iload_n hx hb dL_low_0 rfl (lv_at hl 0 rfl) ?_
  refine xi_ldc hx hb 2147483647 (by decide) hown (hts _ kL_9) dL_low_1 ?_
  refine lv_iand hx hb dL_low_3 ?_
  obtain ⟨z, z0, z1, e⟩ := and_nn (iI v)
  rw [e]
  refine lv_iload_n hx hb dL_low_4 rfl (lv_at hl 1 rfl) ?_
  refine xi_irem hx hb ⟨by omega, by omega⟩ ⟨by omega, by omega⟩ dL_low_5 ?_
  exact g_iret hx hb hr hW ⟨z % n, Int.emod_nonneg _ (by omega), Int.emod_lt_of_pos _ hn.1, rfl, rfl⟩ dL_low_6 hlk
