/-- the words of a throw that are premises of their own -/
def xNG (cls : String) : List Cond := [.declares ⟨"java/lang/RuntimeException", "<init>", "(Ljava/lang/String;)V"⟩, .declares ⟨"java/lang/Exception", "<init>", "(Ljava/lang/String;)V"⟩, .declares ⟨"java/lang/Throwable", "<init>", "(Ljava/lang/String;)V"⟩, .castable cls cls]
/-! calls that may throw: a contract that returns, or throws an exception of a class that px allows, the world f standing -/
def gXC (D : va_G) (B0 : Nat) (f : gF) (px : String → Prop) : String → State → State → Prop := fun E st t => px E ∧ gP D B0 f t.heap ∧ va_F (fun q : Nat => B0 ≤ q) st t
abbrev gX (l : Launch) (y : MethodName) (ws : List Cond) (fr lo : Nat) (D : va_G) (cy : Nat → ClassId) (B0 : Nat) (av : List Value) (f : gF) (post : Option Value → gF → Prop) (px : String → Prop) (mc ms : Nat) : Prop := vx_Met l y ws { frames := fr, cells := mc, slots := ms, locals := lo } (gPc D cy B0 av f) (gQ D B0 post) (gXC D B0 f px) mc ms (fun q : Nat => B0 ≤ q)
section XL
variable {p : Program} {l : Launch} {e : Env} {R : Room} {s : State} {m : MethodId} {args : Array Value} {below : List Frame} {meth : Method} {c : Code} {H : Heap} {locs : List Loc} {cells slots : Nat} {Q : State → Prop}
variable {cc : ByteArray} {pc : Nat} {ls : Array Slot} {rest : List Value}
variable {D : va_G} {cy : Nat → ClassId} {B0 : Nat} {H0 : State} {f : gF} {a : Nat}
theorem g_callX {st0 : List Value} {mc ms : Nat} {aa : Array Value} {post : Option Value → gF → Prop} {px : String → Prop} (hr : vx_Run p l e R s m args below meth c H locs cells slots mc ms (F0 m pc ls st0) rest (gQ D B0 post aa) (gXC D B0 f px) (fun q : Nat => B0 ≤ q)) (hW : gW D B0 H0 f H locs)
    (kx : ∀ (E : String) (ce : Cell) (q9 : Addr) (H1 : Heap) (locs1 : List Loc), px E → gW D B0 H0 f H1 locs1 → H1[q9]? = some ce → ce.vm = .none → s.vm.findClass E = some ce.cls → vx_W p l e R s m args below meth c H1 locs1 (cells + mc) (slots + ms) Q (F0 m pc ls rest) q9)
    (kk : ∀ (v : Option Value) (f1 : gF) (H1 : Heap) (locs1 : List Loc), post v f1 → gW D B0 H0 f1 H1 locs1 → W p l e R s m args below meth c H1 locs1 (cells + mc) (slots + ms) Q (F0 m (pc + 3) ls (v.toList ++ rest))) : W p l e R s m args below meth c H locs cells slots Q (F0 m pc ls st0) := by
  intro T hT X
  rcases hr T hT X with ⟨v, st₀, t, T', L, h0, X', hL, e1, e2, ⟨⟨v', f1, hv, hp, hb⟩, hz, hk⟩, st⟩ | ⟨q, st₀, t, T', L, E, ce, h0, X', hL, e1, e2, ⟨hp, hb, hz, hk⟩, hce, hcv, hcl, st⟩
  · cases hv
    rw [h0] at hz hk
    obtain ⟨hP, hS, hB⟩ := hW
    obtain ⟨t2, a1, b1⟩ := kk v f1 T'.heap (locs ++ L) hp ⟨by rw [e1]; exact hb, ⟨Nat.le_trans hS.1 (by rw [e1]; exact hz), fun q h1 h2 => by rw [e1, hk q (Nat.lt_of_lt_of_le h1 hS.1) h2]; exact hS.2.1 q h1 h2, fun q hq => by
        rcases List.mem_append.mp hq with h | h
        · exact hS.2.2 q h
        · exact hL q h⟩, hB⟩ T' rfl X'
    exact ⟨t2, st t2 a1, b1⟩
  · rw [h0] at hz hk
    obtain ⟨hP, hS, hB⟩ := hW
    obtain ⟨t2, a1, b1⟩ := kx E ce q T'.heap (locs ++ L) hp ⟨by rw [e1]; exact hb, ⟨Nat.le_trans hS.1 (by rw [e1]; exact hz), fun q h1 h2 => by rw [e1, hk q (Nat.lt_of_lt_of_le h1 hS.1) h2]; exact hS.2.1 q h1 h2, fun q hq => by
        rcases List.mem_append.mp hq with h | h
        · exact hS.2.2 q h
        · exact hL q h⟩, hB⟩ (by rw [e1]; exact hce) hcv hcl T' rfl X'
    exact ⟨t2, st.trans a1, b1⟩
theorem g_xcallV {y : MethodName} {bytes : ByteArray} {maxL nL mc ms n index fr lo i ci b N : Nat} {ret : Option FieldType} {ws Ts : List Cond} {own C : String} {T : u_T} {fs As st0 : List Value} {post : Option Value → gF → Prop} {px : String → Prop}
    (S : CallFix p m c cc nL s args Ts own) (hM : gX l y ws fr lo D cy B0 (.ref b :: As) f post px mc ms) (cw : CallW R s args own C index y bytes maxL ret ws { frames := fr, cells := mc, slots := ms, locals := lo } mc ms n)
    (hK : gK D cy s) (hW : gW D B0 s f H locs) (he : f i = some (b, .inr (ci, fs))) (hc : vwCl[ci]? = some (C, T, N)) (hn : As.length = n) (hsize : ls.size = nL) (hstack : st0 = As.reverse ++ .ref b :: rest) (hR : (rest.map fun v => v.category).sum ≤ 8) (hdg : decode cc pc = .ok (.invokevirtual index, 3)) (hf : cells + mc ≤ R.cells ∧ slots + ms ≤ R.slots)
    (kx : ∀ (E : String) (ce : Cell) (q9 : Addr) (H1 : Heap) (locs1 : List Loc), px E → gW D B0 s f H1 locs1 → H1[q9]? = some ce → ce.vm = .none → s.vm.findClass E = some ce.cls → vx_W p l e R s m args below meth c H1 locs1 (cells + mc) (slots + ms) Q (F0 m pc ls rest) q9)
    (kk : ∀ (v : Option Value) (f1 : gF) (H1 : Heap) (locs1 : List Loc), post v f1 → gW D B0 s f1 H1 locs1 → W p l e R s m args below meth c H1 locs1 (cells + mc) (slots + ms) Q (F0 m (pc + 3) ls (v.toList ++ rest))) : W p l e R s m args below meth c H locs cells slots Q (F0 m pc ls st0) := by
  subst hstack
  refine g_callX (post := post) (px := px) (aa := (Value.ref b :: As).toArray) (vx_runV (As := As) (rest := rest) S hM cw ⟨gPc_blind D cy B0 _ f, va_recv (q0 := 0) hK.1 (hW.1.one he) hc rfl, fun U hU hWU => ⟨rfl, by rw [hU]; exact Nat.le_trans hW.2.2.1 hW.2.1.1, hK.warm hWU, by rw [hU]; exact hW.1, by rw [hU]; exact hW.2.2.2.go hWU.alike (fun a h1 h2 => hW.2.1.2.1 a h1 h2)⟩⟩ rfl hn hsize rfl (lv_room hR) hdg hf) hW kx kk
theorem g_xcallS {y : MethodName} {bytes : ByteArray} {maxL nL mc ms n index fr lo : Nat} {ret : Option FieldType} {ws Ts : List Cond} {own : String} {As st0 : List Value} {post : Option Value → gF → Prop} {px : String → Prop}
    (S : CallFix p m c cc nL s args Ts own) (hM : gX l y ws fr lo D cy B0 As f post px mc ms) (cw : CallB R s args own index y bytes maxL ret ws { frames := fr, cells := mc, slots := ms, locals := lo } mc ms n ∧ (Cond.static y).before args s = true)
    (hK : gK D cy s) (hW : gW D B0 s f H locs) (hn : As.length = n) (hsize : ls.size = nL) (hstack : st0 = As.reverse ++ rest) (hR : (rest.map fun v => v.category).sum ≤ 8) (hdg : decode cc pc = .ok (.invokestatic index, 3)) (hf : cells + mc ≤ R.cells ∧ slots + ms ≤ R.slots)
    (kx : ∀ (E : String) (ce : Cell) (q9 : Addr) (H1 : Heap) (locs1 : List Loc), px E → gW D B0 s f H1 locs1 → H1[q9]? = some ce → ce.vm = .none → s.vm.findClass E = some ce.cls → vx_W p l e R s m args below meth c H1 locs1 (cells + mc) (slots + ms) Q (F0 m pc ls rest) q9)
    (kk : ∀ (v : Option Value) (f1 : gF) (H1 : Heap) (locs1 : List Loc), post v f1 → gW D B0 s f1 H1 locs1 → W p l e R s m args below meth c H1 locs1 (cells + mc) (slots + ms) Q (F0 m (pc + 3) ls (v.toList ++ rest))) : W p l e R s m args below meth c H locs cells slots Q (F0 m pc ls st0) := by
  subst hstack
  refine g_callX (post := post) (px := px) (aa := As.toArray) (vx_runS (As := As) (rest := rest) S hM cw ⟨gPc_blind D cy B0 _ f, fun U hU hWU => ⟨rfl, by rw [hU]; exact Nat.le_trans hW.2.2.1 hW.2.1.1, hK.warm hWU, by rw [hU]; exact hW.1, by rw [hU]; exact hW.2.2.2.go hWU.alike (fun a h1 h2 => hW.2.1.2.1 a h1 h2)⟩⟩ rfl hn hsize rfl (lv_room hR) hdg hf) hW kx kk
/-- the start of a method that may throw -/
theorem g_startX {y : MethodName} {ws ws' : List Cond} {fr lo mc ms : Nat} {av : List Value} {post : Option Value → gF → Prop} {px : String → Prop} {maxL : Nat} {ret : Option FieldType} (hy : plainName y.cls = true) (hw : ws = Cond.code y cc maxL ret :: ws') (hlen : (lg_sl av).length ≤ maxL)
    (body : ∀ (p : Program) (e : Env) (s : State) (m : MethodId) (below : List Frame) (meth : Method) (c : Code) (ls : Array Slot) (H : Heap) (locs : List Loc), CallFix p m c cc maxL s av.toArray ws y.cls → meth.sig.returnType = ret → meth.locks = false → meth.name = y.name → (∀ x ∈ c.exceptionTable.toList, False) → gK D cy s → gW D B0 s f H locs → lv_has ls maxL (lv_args 0 av) →
      W p l e { frames := fr, cells := mc, slots := ms, locals := lo } s m av.toArray below meth c H locs 0 0 (vx_MQ below (gQ D B0 post) (gXC D B0 f px) av.toArray s mc ms (fun q : Nat => B0 ≤ q)) (F0 m 0 ls [])) : gX l y ws fr lo D cy B0 av f post px mc ms := by
  refine vx_ofW (cc := cc) (maxL := maxL) (ret := ret) hy hw ?_
  intro p e s m args below meth c s₁ B hml ht hv
  obtain ⟨rfl, hB0, hK, hP, hZ⟩ := hv
  have hts := atoms_spec (ws := ws) B.pre
  have hown : s.vm.findClass y.cls = some m.cls := findClass_of_methodNamed B.named
  rw [lg_entry_eq]
  exact body p e s m below meth c _ s.heap [] ⟨B.exec, B.bytes, hml, hown, hts⟩ B.returns B.notSynchronized (name_of_methodNamed B.named B.method).1 ht hK ⟨hP, va_S.rf, hB0, hZ⟩ (lv_entry av hlen)
/-- thrown by a callee, not caught here -/
theorem g_outX {g : gF} {px : String → Prop} {Qc : Array Value → State → Outcome → State → Prop} {E : String} {ce : Cell} {q9 : Addr} {mc ms : Nat} (ht : ∀ x ∈ c.exceptionTable.toList, False) (hlocks : meth.locks = false) (hW : gW D B0 s f H locs) (hsub : ∀ (x : Nat) (r : Nat × va_E), g x = some r → f x = some r) (hp : px E) (h1 : H[q9]? = some ce) (h2 : ce.vm = .none) (h3 : s.vm.findClass E = some ce.cls) (hc : cells ≤ mc) (hs : slots ≤ ms) :
    vx_W p l e R s m args below meth c H locs cells slots (vx_MQ below Qc (gXC D B0 g px) args s mc ms (fun q : Nat => B0 ≤ q)) (F0 m pc ls rest) q9 :=
  vx_out (fun x hx => (ht x hx).elim) hlocks h1 h2 h3 (fun t hT _ => ⟨hp, by rw [hT]; exact hW.1.via id hsub (fun _ _ _ _ _ _ e => e), by
    have h4 := hW.2.1.F hT
    exact h4⟩) hW.2.1.2.2 hc hs
theorem g_throwX {cls text : String} {ik is ic : Nat} {g : gF} {px : String → Prop} {Qc : Array Value → State → Outcome → State → Prop} {mc ms : Nat} (hx : p.tables.exec = Jvm.exec) (hb : c.code = cc) (hst : l.stackTraces = false) (hown : s.vm.findClass RX11 = some m.cls) (hK : gK D cy s) (hfit : Bundle.fit cls = true) (hk : (Cond.classLink RX11 ik cls).before args s = true) (hini : (Cond.initialized cls).before args s = true)
    (hat : ∀ w ∈ (vx_atS RX11 ic cls ["java/lang/RuntimeException", "java/lang/Exception"]).filter goodWord, w.before args s = true) (hng : (vx_atS RX11 ic cls ["java/lang/RuntimeException", "java/lang/Exception"]).filter (fun w => !goodWord w) = xNG cls) (hcx : (Cond.castable cls cls) ∈ gNs) (hvo : (Cond.classLink RX11 ik cls :: Cond.initialized cls :: vx_atS RX11 ic cls ["java/lang/RuntimeException", "java/lang/Exception"]).all vx_ot = true) (hstr : (is, text) ∈ gSt)
    (hW : gW D B0 s f H locs) (hsize : ls.size = c.maxLocals) (ht : ∀ x ∈ c.exceptionTable.toList, False) (hlocks : meth.locks = false) (hp : px cls) (hsub : ∀ (x : Nat) (r : Nat × va_E), g x = some r → f x = some r)
    (d0 : decode cc pc = .ok (.new ik, 3)) (d3 : decode cc (pc + 3) = .ok (.dup, 1)) (d4 : decode cc (pc + 4) = .ok (.ldc is, 2)) (d6 : decode cc (pc + 6) = .ok (.invokespecial ic, 3)) (d9 : decode cc (pc + 9) = .ok (.athrow, 1))
    (hRf : 5 < R.frames) (hRl : (rest.map fun v => v.category).sum + 82 ≤ R.locals) (hRc : cells + 1 ≤ R.cells) (hRs : slots + 6 ≤ R.slots) (hc : cells + 1 ≤ mc) (hs : slots + 6 ≤ ms) :
    W p l e R s m args below meth c H locs cells slots (vx_MQ below Qc (gXC D B0 g px) args s mc ms (fun q : Nat => B0 ≤ q)) (F0 m pc ls rest) :=
  vx_throwS (names := ["java/lang/RuntimeException", "java/lang/Exception"]) (A := fun q : Nat => B0 ≤ q) hx hb hst hown hfit (fun n hn => by
      simp only [List.mem_cons, List.not_mem_nil, or_false] at hn
      rcases hn with rfl | rfl <;> decide +kernel) hk hini (hK.2.2.2.1 _ hstr)
    (vx_hat (B := xNG cls) hat (fun w hw => by rw [hng] at hw; exact hw) (vx_c (va_Nw.use rfl (hK.2.1 _ (List.mem_of_getElem? (i := 14) rfl))) (vx_c (va_Nw.use rfl (hK.2.1 _ (List.mem_of_getElem? (i := 15) rfl))) (vx_c (va_Nw.use rfl (hK.2.1 _ (List.mem_of_getElem? (i := 16) rfl))) (vx_c (va_Nw.use rfl (hK.2.1 _ hcx)) vx_n))))) (fun w hw => List.all_eq_true.mp hvo w hw) hW.2.2.2.2.2.1 hW.2.2.2.2.2.2 hW.2.1 hsize d0 d3 d4 d6 d9 (fun x hx => (ht x hx).elim) hRf hRl hRc hRs hlocks
    (fun t _ h1 h2 => ⟨hp, (hW.1.kept h2).via id hsub (fun _ _ _ _ _ _ e => e), ⟨Nat.le_trans hW.2.1.1 h1, fun q q1 q2 => (h2 q (Nat.lt_of_lt_of_le q1 hW.2.1.1)).trans (hW.2.1.2.1 q q1 q2)⟩⟩) hW.2.1.2.2 hc hs
theorem g_throwXW {cls text : String} {ik is ic : Nat} {g : gF} {px : String → Prop} {Qc : Array Value → State → Outcome → State → Prop} {mc ms : Nat} (hx : p.tables.exec = Jvm.exec) (hb : c.code = cc) (hst : l.stackTraces = false) (hown : s.vm.findClass RX11 = some m.cls) (hK : gK D cy s) (hfit : Bundle.fit cls = true) (hk : (Cond.classLink RX11 ik cls).before args s = true) (hini : (Cond.initialized cls).before args s = true)
    (hat : ∀ w ∈ (vx_atS RX11 ic cls ["java/lang/RuntimeException", "java/lang/Exception"]).filter goodWord, w.before args s = true) (hng : (vx_atS RX11 ic cls ["java/lang/RuntimeException", "java/lang/Exception"]).filter (fun w => !goodWord w) = xNG cls) (hcx : (Cond.castable cls cls) ∈ gNs) (hvo : (Cond.classLink RX11 ik cls :: Cond.initialized cls :: vx_atS RX11 ic cls ["java/lang/RuntimeException", "java/lang/Exception"]).all vx_ot = true) (hstr : (is, text) ∈ gSt)
    (hW : gW D B0 s f H locs) (hsize : ls.size = c.maxLocals) (ht : ∀ x ∈ c.exceptionTable.toList, False) (hlocks : meth.locks = false) (hp : px cls) (hsub : ∀ (x : Nat) (r : Nat × va_E), g x = some r → f x = some r)
    (d0 : decode cc pc = .ok (.new ik, 3)) (d3 : decode cc (pc + 3) = .ok (.dup, 1)) (d4 : decode cc (pc + 4) = .ok (.ldc_w is, 3)) (d7 : decode cc (pc + 7) = .ok (.invokespecial ic, 3)) (d10 : decode cc (pc + 10) = .ok (.athrow, 1))
    (hRf : 5 < R.frames) (hRl : (rest.map fun v => v.category).sum + 82 ≤ R.locals) (hRc : cells + 1 ≤ R.cells) (hRs : slots + 6 ≤ R.slots) (hc : cells + 1 ≤ mc) (hs : slots + 6 ≤ ms) :
    W p l e R s m args below meth c H locs cells slots (vx_MQ below Qc (gXC D B0 g px) args s mc ms (fun q : Nat => B0 ≤ q)) (F0 m pc ls rest) :=
  vx_throwSW (names := ["java/lang/RuntimeException", "java/lang/Exception"]) (A := fun q : Nat => B0 ≤ q) hx hb hst hown hfit (fun n hn => by
      simp only [List.mem_cons, List.not_mem_nil, or_false] at hn
      rcases hn with rfl | rfl <;> decide +kernel) hk hini (hK.2.2.2.1 _ hstr)
    (vx_hat (B := xNG cls) hat (fun w hw => by rw [hng] at hw; exact hw) (vx_c (va_Nw.use rfl (hK.2.1 _ (List.mem_of_getElem? (i := 14) rfl))) (vx_c (va_Nw.use rfl (hK.2.1 _ (List.mem_of_getElem? (i := 15) rfl))) (vx_c (va_Nw.use rfl (hK.2.1 _ (List.mem_of_getElem? (i := 16) rfl))) (vx_c (va_Nw.use rfl (hK.2.1 _ hcx)) vx_n))))) (fun w hw => List.all_eq_true.mp hvo w hw) hW.2.2.2.2.2.1 hW.2.2.2.2.2.2 hW.2.1 hsize d0 d3 d4 d7 d10 (fun x hx => (ht x hx).elim) hRf hRl hRc hRs hlocks
    (fun t _ h1 h2 => ⟨hp, (hW.1.kept h2).via id hsub (fun _ _ _ _ _ _ e => e), ⟨Nat.le_trans hW.2.1.1 h1, fun q q1 q2 => (h2 q (Nat.lt_of_lt_of_le q1 hW.2.1.1)).trans (hW.2.1.2.1 q q1 q2)⟩⟩) hW.2.1.2.2 hc hs
end XL
abbrev xIO : String := "java/lang/IndexOutOfBoundsException"
abbrev xIA : String := "java/lang/IllegalArgumentException"
abbrev xIS : String := "java/lang/IllegalStateException"
theorem xng_io : (vx_atS RX11 217 "java/lang/IndexOutOfBoundsException" ["java/lang/RuntimeException", "java/lang/Exception"]).filter (fun w => !goodWord w) = xNG "java/lang/IndexOutOfBoundsException" := by decide +kernel
theorem xng_ia : (vx_atS RX11 256 "java/lang/IllegalArgumentException" ["java/lang/RuntimeException", "java/lang/Exception"]).filter (fun w => !goodWord w) = xNG "java/lang/IllegalArgumentException" := by decide +kernel
theorem xng_is : (vx_atS RX11 263 "java/lang/IllegalStateException" ["java/lang/RuntimeException", "java/lang/Exception"]).filter (fun w => !goodWord w) = xNG "java/lang/IllegalStateException" := by decide +kernel
theorem xvo_io : (Cond.classLink RX11 213 "java/lang/IndexOutOfBoundsException" :: Cond.initialized "java/lang/IndexOutOfBoundsException" :: vx_atS RX11 217 "java/lang/IndexOutOfBoundsException" ["java/lang/RuntimeException", "java/lang/Exception"]).all vx_ot = true := by decide +kernel
theorem xvo_ia : (Cond.classLink RX11 252 "java/lang/IllegalArgumentException" :: Cond.initialized "java/lang/IllegalArgumentException" :: vx_atS RX11 256 "java/lang/IllegalArgumentException" ["java/lang/RuntimeException", "java/lang/Exception"]).all vx_ot = true := by decide +kernel
theorem xvo_is : (Cond.classLink RX11 259 "java/lang/IllegalStateException" :: Cond.initialized "java/lang/IllegalStateException" :: vx_atS RX11 263 "java/lang/IllegalStateException" ["java/lang/RuntimeException", "java/lang/Exception"]).all vx_ot = true := by decide +kernel
theorem sGo_1 {a b d : Bool} (h : a = false) : sGo a b d = 1 := by unfold sGo; rw [if_pos h]
theorem sGo_2 {a b d : Bool} (ha : a = true) (h : b = false) : sGo a b d = 2 := by unfold sGo; rw [if_neg (by rw [ha]; decide), if_pos h]
theorem sGo_3 {a b d : Bool} (ha : a = true) (hb : b = true) (h : d = false) : sGo a b d = 3 := by unfold sGo; rw [if_neg (by rw [ha]; decide), if_neg (by rw [hb]; decide), if_pos h]
theorem sGo_00 {a b d : Bool} (ha : a = true) (hb : b = true) (h : d = true) : sGo a b d = 0 := by unfold sGo; rw [if_neg (by rw [ha]; decide), if_neg (by rw [hb]; decide), if_neg (by rw [h]; decide)]
