section
-- ===== PART A: goes FIRST, ahead of the names: the tables' words, and 'selects' of the private methods out of them =====
/-- a private method of a class that the tables say can be made, by its rows of tables_1 -/
def lw_okq (q : MethodName × Nat) : Prop := (q.1.cls ≠ "java/lang/invoke/MethodHandle" ∧ q.1.cls ≠ "java/lang/invoke/VarHandle") ∧ Cond.instantiable q.1.cls q.2 ∈ tables_1 ∧ Cond.privateMethod q.1 ∈ tables_1 ∧ Cond.instanceMethod q.1 ∈ tables_1
theorem lw_p0 : lw_okq (⟨"java/lang/Throwable", "fillInStackTrace", "(I)Ljava/lang/Throwable;"⟩, 6) := ⟨⟨by decide +kernel, by decide +kernel⟩, List.mem_of_getElem? (i := 312) (by decide +kernel), List.mem_of_getElem? (i := 310) (by decide +kernel), List.mem_of_getElem? (i := 311) (by decide +kernel)⟩
theorem lw_p1 : lw_okq (⟨"java/util/ArrayList", "add", "(Ljava/lang/Object;[Ljava/lang/Object;I)V"⟩, 3) := ⟨⟨by decide +kernel, by decide +kernel⟩, List.mem_of_getElem? (i := 84) (by decide +kernel), List.mem_of_getElem? (i := 546) (by decide +kernel), List.mem_of_getElem? (i := 547) (by decide +kernel)⟩
theorem lw_p2 : lw_okq (⟨"java/util/ArrayList", "grow", "()[Ljava/lang/Object;"⟩, 3) := ⟨⟨by decide +kernel, by decide +kernel⟩, List.mem_of_getElem? (i := 84) (by decide +kernel), List.mem_of_getElem? (i := 550) (by decide +kernel), List.mem_of_getElem? (i := 551) (by decide +kernel)⟩
theorem lw_p3 : lw_okq (⟨"java/util/ArrayList", "grow", "(I)[Ljava/lang/Object;"⟩, 3) := ⟨⟨by decide +kernel, by decide +kernel⟩, List.mem_of_getElem? (i := 84) (by decide +kernel), List.mem_of_getElem? (i := 554) (by decide +kernel), List.mem_of_getElem? (i := 555) (by decide +kernel)⟩
theorem lw_p4 : lw_okq (⟨"MillstreamPayments$Exchange", "settleFirst", "(II)I"⟩, 8) := ⟨⟨by decide +kernel, by decide +kernel⟩, List.mem_of_getElem? (i := 37) (by decide +kernel), List.mem_of_getElem? (i := 629) (by decide +kernel), List.mem_of_getElem? (i := 630) (by decide +kernel)⟩
theorem lw_p5 : lw_okq (⟨"MillstreamPayments$Exchange", "mayMove", "(LMillstreamPayments$Payment;)Z"⟩, 8) := ⟨⟨by decide +kernel, by decide +kernel⟩, List.mem_of_getElem? (i := 37) (by decide +kernel), List.mem_of_getElem? (i := 645) (by decide +kernel), List.mem_of_getElem? (i := 646) (by decide +kernel)⟩
theorem lw_p6 : lw_okq (⟨"MillstreamPayments$Batch", "count", "(LMillstreamPayments$Terms;J)V"⟩, 3) := ⟨⟨by decide +kernel, by decide +kernel⟩, List.mem_of_getElem? (i := 180) (by decide +kernel), List.mem_of_getElem? (i := 663) (by decide +kernel), List.mem_of_getElem? (i := 664) (by decide +kernel)⟩
theorem lw_p7 : lw_okq (⟨"MillstreamPayments$Exchange", "settleBatch", "()I"⟩, 8) := ⟨⟨by decide +kernel, by decide +kernel⟩, List.mem_of_getElem? (i := 37) (by decide +kernel), List.mem_of_getElem? (i := 699) (by decide +kernel), List.mem_of_getElem? (i := 700) (by decide +kernel)⟩
theorem lw_p8 : lw_okq (⟨"MillstreamPayments", "needPayment", "(I)LMillstreamPayments$Payment;"⟩, 1) := ⟨⟨by decide +kernel, by decide +kernel⟩, List.mem_of_getElem? (i := 29) (by decide +kernel), List.mem_of_getElem? (i := 851) (by decide +kernel), List.mem_of_getElem? (i := 852) (by decide +kernel)⟩
theorem lw_p9 : lw_okq (⟨"MillstreamPayments$Exchange", "nextToTakeOut", "(IZ)LMillstreamPayments$Payment;"⟩, 8) := ⟨⟨by decide +kernel, by decide +kernel⟩, List.mem_of_getElem? (i := 37) (by decide +kernel), List.mem_of_getElem? (i := 915) (by decide +kernel), List.mem_of_getElem? (i := 916) (by decide +kernel)⟩
theorem lw_p10 : lw_okq (⟨"MillstreamPayments$Exchange", "lastInBatch", "(IIZ)LMillstreamPayments$Payment;"⟩, 8) := ⟨⟨by decide +kernel, by decide +kernel⟩, List.mem_of_getElem? (i := 37) (by decide +kernel), List.mem_of_getElem? (i := 920) (by decide +kernel), List.mem_of_getElem? (i := 921) (by decide +kernel)⟩
theorem lw_p11 : lw_okq (⟨"MillstreamPayments$Exchange", "giveBackWhatMayNotStay", "()V"⟩, 8) := ⟨⟨by decide +kernel, by decide +kernel⟩, List.mem_of_getElem? (i := 37) (by decide +kernel), List.mem_of_getElem? (i := 945) (by decide +kernel), List.mem_of_getElem? (i := 946) (by decide +kernel)⟩
theorem lw_p12 : lw_okq (⟨"MillstreamPayments$Exchange", "chargeBanks", "()V"⟩, 8) := ⟨⟨by decide +kernel, by decide +kernel⟩, List.mem_of_getElem? (i := 37) (by decide +kernel), List.mem_of_getElem? (i := 950) (by decide +kernel), List.mem_of_getElem? (i := 951) (by decide +kernel)⟩
theorem lw_p13 : lw_okq (⟨"MillstreamPayments$Exchange", "charge", "(IIJ)V"⟩, 8) := ⟨⟨by decide +kernel, by decide +kernel⟩, List.mem_of_getElem? (i := 37) (by decide +kernel), List.mem_of_getElem? (i := 962) (by decide +kernel), List.mem_of_getElem? (i := 963) (by decide +kernel)⟩
theorem lw_p14 : lw_okq (⟨"MillstreamPayments$Exchange", "letWaitingEnter", "()V"⟩, 8) := ⟨⟨by decide +kernel, by decide +kernel⟩, List.mem_of_getElem? (i := 37) (by decide +kernel), List.mem_of_getElem? (i := 973) (by decide +kernel), List.mem_of_getElem? (i := 974) (by decide +kernel)⟩
def lw_privs_1 : List (MethodName × Nat) := [(⟨"java/lang/Throwable", "fillInStackTrace", "(I)Ljava/lang/Throwable;"⟩, 6), (⟨"java/util/ArrayList", "add", "(Ljava/lang/Object;[Ljava/lang/Object;I)V"⟩, 3), (⟨"java/util/ArrayList", "grow", "()[Ljava/lang/Object;"⟩, 3), (⟨"java/util/ArrayList", "grow", "(I)[Ljava/lang/Object;"⟩, 3), (⟨"MillstreamPayments$Exchange", "settleFirst", "(II)I"⟩, 8), (⟨"MillstreamPayments$Exchange", "mayMove", "(LMillstreamPayments$Payment;)Z"⟩, 8), (⟨"MillstreamPayments$Batch", "count", "(LMillstreamPayments$Terms;J)V"⟩, 3), (⟨"MillstreamPayments$Exchange", "settleBatch", "()I"⟩, 8), (⟨"MillstreamPayments", "needPayment", "(I)LMillstreamPayments$Payment;"⟩, 1), (⟨"MillstreamPayments$Exchange", "nextToTakeOut", "(IZ)LMillstreamPayments$Payment;"⟩, 8), (⟨"MillstreamPayments$Exchange", "lastInBatch", "(IIZ)LMillstreamPayments$Payment;"⟩, 8), (⟨"MillstreamPayments$Exchange", "giveBackWhatMayNotStay", "()V"⟩, 8), (⟨"MillstreamPayments$Exchange", "chargeBanks", "()V"⟩, 8), (⟨"MillstreamPayments$Exchange", "charge", "(IIJ)V"⟩, 8), (⟨"MillstreamPayments$Exchange", "letWaitingEnter", "()V"⟩, 8)]
theorem lw_r1 : ∀ q ∈ lw_privs_1, lw_okq q := List.forall_mem_cons.mpr ⟨lw_p0, List.forall_mem_cons.mpr ⟨lw_p1, List.forall_mem_cons.mpr ⟨lw_p2, List.forall_mem_cons.mpr ⟨lw_p3, List.forall_mem_cons.mpr ⟨lw_p4, List.forall_mem_cons.mpr ⟨lw_p5, List.forall_mem_cons.mpr ⟨lw_p6, List.forall_mem_cons.mpr ⟨lw_p7, List.forall_mem_cons.mpr ⟨lw_p8, List.forall_mem_cons.mpr ⟨lw_p9, List.forall_mem_cons.mpr ⟨lw_p10, List.forall_mem_cons.mpr ⟨lw_p11, List.forall_mem_cons.mpr ⟨lw_p12, List.forall_mem_cons.mpr ⟨lw_p13, List.forall_mem_cons.mpr ⟨lw_p14, fun _ h => absurd h List.not_mem_nil⟩⟩⟩⟩⟩⟩⟩⟩⟩⟩⟩⟩⟩⟩⟩
def lw_privs : List (MethodName × Nat) := lw_privs_1
def lw_tbl : List Cond := k2_sels lw_privs ++ tables_1
theorem lw_privs_ok : ∀ q ∈ lw_privs, lw_okq q := lw_r1
end
section
/-! ===== BEGIN words of one list among another's, by their places ===== -/
theorem goodIn_r {big : List Cond} (ws : List Cond) (ps : List Nat) (hp : ws = ps.filterMap (fun i => big[i]?)) (h : ws.all goodWord = true) : GoodIn big ws := by
  intro w hw
  have h1 := List.all_eq_true.mp h w hw
  rw [hp] at hw
  obtain ⟨i, -, hi⟩ := List.mem_filterMap.mp hw
  have hm : w ∈ big := by first | exact List.mem_of_getElem? hi | exact List.getElem?_mem hi
  exact ⟨hm, good_of_word h1⟩
theorem goodIn_app {big a b : List Cond} (ha : GoodIn big a) (hb : GoodIn big b) : GoodIn big (a ++ b) := fun w h => (List.mem_append.mp h).elim (ha w) (hb w)
theorem goodIn_ca {big a b : List Cond} {c : Cond} (ha : GoodIn big (c :: a)) (hb : GoodIn big b) : GoodIn big (c :: (a ++ b)) := fun w h => (List.mem_cons.mp h).elim (fun e => ha w (List.mem_cons.mpr (Or.inl e))) (fun h => (List.mem_append.mp h).elim (fun h => ha w (List.mem_cons.mpr (Or.inr h))) (hb w))
theorem goodIn_sub {big ws : List Cond} (hm : ∀ w ∈ ws, w ∈ big) (h : ws.all goodWord = true) : GoodIn big ws := fun w hw => ⟨hm w hw, good_of_word (List.all_eq_true.mp h w hw)⟩
/-! ===== END ===== -/

/-! ===== BEGIN exceptions that leave a method, and their catching by the caller (launches without stack traces) ===== -/
section VXA
/-! The laws vx_back, vx_callV, vx_callS, vx_callSW, vx_throw0, vx_throwS follow proofs of the library, with one case more: JvmDerived/Free/Laws.lean (Back.of_free), Shelf42/LK1.lean (callV, callS), Shelf/KitTraced.lean (throwNew0V, throwNewS). -/
/-- where a method has thrown q: the class by its name, the cell, what was written, the world -/
def vx_T (XC : String → State → State → Prop) (st : State) (q : Addr) (t : State) (mc ms : Nat) (free : Addr → Prop) : Prop :=
  ∃ (E : String) (ce : Cell) (L : List Loc), XC E st t ∧ t.heap[q]? = some ce ∧ ce.vm = .none ∧ st.vm.findClass E = some ce.cls ∧ st.WarmedH t.vm ∧ st.sameButNew ({ t with vm := st.vm } : State) L mc ms ∧ ∀ z ∈ L, free z.base
def vx_Q (Qc : Array Value → State → Outcome → State → Prop) (XC : String → State → State → Prop) (mc ms : Nat) (free : Addr → Prop) : Array Value → State → Outcome → State → Prop := fun a st o t =>
  (Qc a st o t ∧ ∃ L, FrameEnd st o t L mc ms ∧ ∀ q ∈ L, free q.base) ∨ ∃ q, o = .threw q ∧ vx_T XC st q t mc ms free
/-- a callee that returns or throws -/
def vx_Met (l : Launch) (y : MethodName) (ws : List Cond) (rm : Room) (Pc : Array Value → State → Prop) (Qc : Array Value → State → Outcome → State → Prop) (XC : String → State → State → Prop) (mc ms : Nat) (free : Addr → Prop) : Prop :=
  MetFree l y (headSpec ws rm) Pc (fun _ _ _ _ _ => True) (vx_Q Qc XC mc ms free)
def vx_Post (XC : String → State → State → Prop) (mc ms : Nat) (free : Addr → Prop) : Pt → Array Value → Addr → Pt → Prop := fun A a q B =>
  ∃ (g : JFrame) (mk : MethodId) (t : State) (L : List Loc) (E : String) (ce : Cell), B.U.heap = t.heap ∧ B.U.vm = t.vm ∧ XC E (A.U.calling g mk a) t ∧ t.heap[q]? = some ce ∧ ce.vm = .none ∧ A.U.vm.findClass E = some ce.cls ∧ B.locs = A.locs ++ L ∧ (∀ z ∈ L, free z.base) ∧ B.cells = A.cells + mc ∧ B.slots = A.slots + ms
def vx_Back (l : Launch) (R : Room) (p : Program) (e : Env) (below : List Frame) (s : State) (sargs : Array Value) (y : MethodName) (len W9 : Nat)
    (Pre : Pt → Array Value → Prop) (Post : Pt → Array Value → Option Value → Pt → Prop) (PostX : Pt → Array Value → Addr → Pt → Prop) : Prop :=
  ∀ (m : MethodId) (meth : Method) (c : Code) (A : Pt) (g : JFrame) (ig : Instr) (mk : MethodId) (a : Array Value),
    Stand p l e R s m sargs below meth c A.U A.locs A.cells A.slots → g.method = m → g.locals.size = c.maxLocals → decode c.code g.pc = .ok (ig, len) →
    2 * g.monitorRoom + (g.stack.map fun v => v.category).sum ≤ W9 → A.U.methodNamed? y = some mk → Pre A a →
    (∃ (v : Option Value) (B : Pt), Stand p l e R s m sargs below meth c B.U B.locs B.cells B.slots ∧ Post A a v B ∧
      Steps p.tables e below (doInvoke e (A.U.setTop g) [] mk a).1 (B.U.setTop { g with pc := g.pc + len, stack := v.toList ++ g.stack })) ∨
    (∃ (q : Addr) (B : Pt), Stand p l e R s m sargs below meth c B.U B.locs B.cells B.slots ∧ PostX A a q B ∧
      Steps p.tables e below (doInvoke e (A.U.setTop g) [] mk a).1 ((B.U.setTop g).pushFrame (.throwing q)))
section Payer
variable {l : Launch} {R : Room} {p : Program} {e : Env} {below : List Frame} {s : State} {sargs : Array Value} {y : MethodName} {len W9 : Nat}
theorem vx_back {ws : List Cond} {rm : Room} {Pc : Array Value → State → Prop} {Qc : Array Value → State → Outcome → State → Prop} {XC : String → State → State → Prop} {mc ms : Nat} {free : Addr → Prop} {bytes : ByteArray} {maxL : Nat} {ret : Option FieldType}
    (hM : vx_Met l y ws rm Pc Qc XC mc ms free) (hblind : FrameBlind Pc) (hrc : rm.cells = mc) (hrs : rm.slots = ms)
    (hframes : rm.frames + 1 ≤ R.frames) (hlocals : W9 + (maxL + 11) + rm.locals ≤ R.locals)
    (hws : ∀ w ∈ ws, ∀ a' U, s.WarmedH U.vm → w.before a' U = true) (hcode : Cond.code y bytes maxL ret ∈ ws) (hinit : ∀ a' U, s.WarmedH U.vm → (Cond.initialized y.cls).before a' U = true) :
    vx_Back l R p e below s sargs y len W9 (PreOf R mc ms Pc) (PostOf Qc mc ms free) (vx_Post XC mc ms free) := by
  intro m meth c A g ig mk a X hg hsize hdg hW hn hp
  have h1 : (headSpec ws rm).pre.before a A.U = true := atoms_intro fun w hw => hws w hw _ _ X.warmed
  have h2 : (Cond.code y bytes maxL ret).before a A.U = true := hws _ hcode _ _ X.warmed
  have h3 : (Cond.initialized y.cls).before a A.U = true := hinit _ _ X.warmed
  have h4 : A.cells + (headSpec ws rm).room.cells ≤ R.cells := by rw [show (headSpec ws rm).room.cells = mc from hrc]; exact hp.1
  have h5 : A.slots + (headSpec ws rm).room.slots ≤ R.slots := by rw [show (headSpec ws rm).room.slots = ms from hrs]; exact hp.2.1
  have hPc : Pc a (A.U.calling g mk a) := hblind _ _ _ _ hp.2.2
  obtain ⟨U, Ls, c0, s0⟩ := A
  dsimp only [Pt.U, Pt.locs, Pt.cells, Pt.slots] at h1 h2 h3 h4 h5 X hn hPc ⊢
  obtain ⟨methY, cY, hmY, hcY, -, hlY, -, -, -, -⟩ := Cond.code_spec hn h2
  obtain ⟨kY, hkY, -⟩ := className_of_methodNamed hn
  have hinitY : kY.init = .initialized := Cond.initialized_spec (findClass_of_methodNamed hn) hkY h3
  have h : At U g.method c below := by rw [hg]; exact X.here
  have hlocals9 : W9 + (maxL + 11) + (headSpec ws rm).room.locals ≤ R.locals := hlocals
  have happ : (headSpec ws rm).appliesLoose y e.platform (U.calling g mk a) = true :=
    Spec.appliesLoose_calling (g := g) h hdg hn hkY hinitY
      (X.room_calling (g := g) (R' := (headSpec ws rm).room) hsize hmY hcY hframes (by rw [hlY]; omega) h4 h5) h1
  obtain ⟨mid, hmid⟩ := h.above
  have hfr : (U.setTop g).frames = (.java g :: mid) ++ below := by rw [State.frames_setTop' g h.top, hmid]; rfl
  obtain ⟨o, s₂, hsteps, -, hend, hq⟩ := Steps.callFree hM p X.admits X.cas X.clock (acts := []) hfr happ hPc trivial
  have hq' : vx_Q Qc XC mc ms free a (U.calling g mk a) o s₂ := hq
  rw [State.frames_setTop' g h.top] at hend
  obtain ⟨g₀, hg0⟩ := Option.isSome_iff_exists.mp h.top
  obtain ⟨r, hr⟩ := State.topJava?_eq_some.mp hg0
  have hr' : (({ U with heap := s₂.heap, slotsUsed := s₂.slotsUsed } : State).setVm s₂.vm).frames = .java g₀ :: r := hr
  rcases hq' with ⟨hqc, L, hfe, hL⟩ | ⟨q, rfl, E, ce, L, hx, hce, hcv, hcl, hW₂, hsm, hL⟩
  · obtain ⟨⟨v, rfl⟩, hW₂, e2, q2, q3, q4, q5, q6⟩ := id hfe
    have e3 : s₂ = ({ (U.calling g mk a).setFrames s₂.frames with heap := s₂.heap, slotsUsed := s₂.slotsUsed } : State).setVm s₂.vm := by
      have : s₂ = ({ s₂ with vm := (U.calling g mk a).vm } : State).setVm s₂.vm := rfl
      rw [e2] at this
      exact this
    obtain ⟨c₂, i₂, len₂, hc₂, hd₂, hf₂⟩ := hend
    have hW' : U.WarmedH s₂.vm := hW₂
    have hcc : c₂ = c := by
      have h1 : s₂.code? g.method = U.code? g.method := by
        rw [State.code?_eq, State.code?_eq, hW'.alike.method?]
      exact Option.some.inj (hc₂.symm.trans (h1.trans h.code))
    subst hcc
    have hlen : len₂ = len := by rw [hdg] at hd₂; cases hd₂; rfl
    subst hlen
    have hs₂ : s₂ = (({ U with heap := s₂.heap, slotsUsed := s₂.slotsUsed } : State).setVm s₂.vm).setTop { g with pc := g.pc + len₂, stack := v.toList ++ g.stack } := by
      refine e3.trans ?_
      rw [hf₂, State.calling_eq h.top, State.setFrames_setFrames, State.setTop_of_frames _ hr', hr]
      rfl
    have hsame : U.sameButNew ({ U with heap := s₂.heap, slotsUsed := s₂.slotsUsed } : State) L mc ms := by
      refine ⟨?_, q2, q3, q4, q5, q6⟩
      obtain ⟨t, ht, -⟩ := State.frames_cons hr
      show ({ U with heap := s₂.heap, slotsUsed := s₂.slotsUsed } : State) = { U.setFrames U.frames with heap := s₂.heap, slotsUsed := s₂.slotsUsed }
      rw [State.setFrames_self ht]
    subst hg
    refine Or.inl ⟨v, ⟨(({ U with heap := s₂.heap, slotsUsed := s₂.slotsUsed } : State).setVm s₂.vm), Ls ++ L, c0 + mc, s0 + ms⟩,
      ⟨X.admits, X.cas, X.clock, X.frames, X.room, X.hears, X.method, X.code, (X.here.setHeapUsed s₂.heap s₂.slotsUsed).setVm hW'.alike, X.tail, State.WarmedH.trans X.warmed hW', X.limits, X.bytes, X.same.trans (hsame.setVm s.vm)⟩,
      ⟨g, mk, s₂, L, rfl, rfl, hqc, rfl, hL, rfl, rfl⟩, ?_⟩
    show Steps p.tables e below _ ((({ U with heap := s₂.heap, slotsUsed := s₂.slotsUsed } : State).setVm s₂.vm).setTop { g with pc := g.pc + len₂, stack := v.toList ++ g.stack })
    rw [← hs₂]
    exact hsteps
  · obtain ⟨e2, q2, q3, q4, q5, q6⟩ := id hsm
    have e3 : s₂ = ({ (U.calling g mk a).setFrames s₂.frames with heap := s₂.heap, slotsUsed := s₂.slotsUsed } : State).setVm s₂.vm := by
      have : s₂ = ({ s₂ with vm := (U.calling g mk a).vm } : State).setVm s₂.vm := rfl
      rw [e2] at this
      exact this
    have hf₂ : s₂.frames = .throwing q :: .java g :: U.frames.tail := hend
    have hW' : U.WarmedH s₂.vm := hW₂
    have hs₂ : s₂ = ((({ U with heap := s₂.heap, slotsUsed := s₂.slotsUsed } : State).setVm s₂.vm).setTop g).pushFrame (.throwing q) := by
      refine e3.trans ?_
      rw [hf₂, State.calling_eq h.top, State.setFrames_setFrames, State.pushFrame, State.frames_setTop _ hr', State.setTop_of_frames _ hr', State.setFrames_setFrames, hr]
      rfl
    have hsame : U.sameButNew ({ U with heap := s₂.heap, slotsUsed := s₂.slotsUsed } : State) L mc ms := by
      refine ⟨?_, q2, q3, q4, q5, q6⟩
      obtain ⟨t, ht, -⟩ := State.frames_cons hr
      show ({ U with heap := s₂.heap, slotsUsed := s₂.slotsUsed } : State) = { U.setFrames U.frames with heap := s₂.heap, slotsUsed := s₂.slotsUsed }
      rw [State.setFrames_self ht]
    subst hg
    refine Or.inr ⟨q, ⟨(({ U with heap := s₂.heap, slotsUsed := s₂.slotsUsed } : State).setVm s₂.vm), Ls ++ L, c0 + mc, s0 + ms⟩,
      ⟨X.admits, X.cas, X.clock, X.frames, X.room, X.hears, X.method, X.code, (X.here.setHeapUsed s₂.heap s₂.slotsUsed).setVm hW'.alike, X.tail, State.WarmedH.trans X.warmed hW', X.limits, X.bytes, X.same.trans (hsame.setVm s.vm)⟩,
      ⟨g, mk, s₂, L, E, ce, rfl, rfl, hx, hce, hcv, hcl, rfl, hL, rfl, rfl⟩, ?_⟩
    show Steps p.tables e below _ (((({ U with heap := s₂.heap, slotsUsed := s₂.slotsUsed } : State).setVm s₂.vm).setTop g).pushFrame (.throwing q))
    rw [← hs₂]
    exact hsteps
end Payer
section Calls
variable {p : Program} {l : Launch} {e : Env} {R : Room} {s : State} {m : MethodId} {args : Array Value} {below : List Frame} {meth : Method} {c : Code} {T : State} {locs : List Loc} {cells slots : Nat}
theorem vx_callV (X : Stand p l e R s m args below meth c T locs cells slots) (hexec : p.tables.exec = Jvm.exec) {own C : String} {index : Nat} {y : MethodName} {bytes : ByteArray} {maxL : Nat} {ret : Option FieldType}
    (hown : s.vm.findClass own = some m.cls) (hlink : (Cond.methodLink own index y).before args s = true) (hinst : (Cond.instanceMethod y).before args s = true) (hsel : (Cond.selects C y y).before args s = true)
    (hcode : (Cond.code y bytes maxL ret).before args s = true) (hy : y.cls ≠ "java/lang/invoke/MethodHandle" ∧ y.cls ≠ "java/lang/invoke/VarHandle")
    {W9 : Nat} {Pre : Pt → Array Value → Prop} {Post : Pt → Array Value → Option Value → Pt → Prop} {PostX : Pt → Array Value → Addr → Pt → Prop} (hK : vx_Back l R p e below s args y 3 W9 Pre Post PostX)
    {b : Addr} {cellB : Cell} (hcell : T.heap[b]? = some cellB) (hobj : cellB.vm.isStatics = false) (hcls : s.vm.findClass C = some cellB.cls)
    {g : JFrame} (hg : g.method = m) (hsize : g.locals.size = c.maxLocals) {argsL rest : List Value} (hlen : ∀ sig, parseMethodDescriptor y.desc = some sig → argsL.length = sig.parameters.length)
    (hstack : g.stack = argsL.reverse ++ .ref b :: rest) (hW : 2 * g.monitorRoom + (rest.map fun v => v.category).sum ≤ W9) (hdg : decode c.code g.pc = .ok (.invokevirtual index, 3))
    (hpre : ∀ vm₁, s.WarmedH vm₁ → Pre ⟨T.setVm vm₁, locs, cells, slots⟩ (Value.ref b :: argsL).toArray) :
    (∃ (v : Option Value) (vm₁ : Vm) (B : Pt), s.WarmedH vm₁ ∧ Stand p l e R s m args below meth c B.U B.locs B.cells B.slots ∧ Post ⟨T.setVm vm₁, locs, cells, slots⟩ (Value.ref b :: argsL).toArray v B ∧
      ∀ target, Steps p.tables e below (B.U.setTop { g with pc := g.pc + 3, stack := v.toList ++ rest }) target → Steps p.tables e below (T.setTop g) target) ∨
    (∃ (q : Addr) (vm₁ : Vm) (B : Pt), s.WarmedH vm₁ ∧ Stand p l e R s m args below meth c B.U B.locs B.cells B.slots ∧ PostX ⟨T.setVm vm₁, locs, cells, slots⟩ (Value.ref b :: argsL).toArray q B ∧
      Steps p.tables e below (T.setTop g) ((B.U.setTop { g with stack := rest }).pushFrame (.throwing q))) := by
  obtain ⟨mk, methM, hnamed, hmethM, hstM, habM⟩ := Cond.instanceMethod_spec hinst
  obtain ⟨methM', cM, hmethM', -, -, -, -, -, -, hsigM⟩ := Cond.code_spec hnamed hcode
  cases hmethM.symm.trans hmethM'
  obtain ⟨c2, r2, m2, q1, q2, q3, q4, kP, hkP, hkPi⟩ := Cond.selects_spec hsel
  cases hcls.symm.trans q1
  cases (State.methodFound?_of_named hnamed hy).symm.trans q2
  cases hnamed.symm.trans q3
  have hselP : selectMethod e.platform s.vm cellB.cls mk = .method mk := by rw [Launch.admits_selectMethod X.admits]; exact q4
  obtain ⟨vm₁, X₁, hstep₁⟩ := X.invokevirtual hexec hown hlink hnamed hmethM hstM hkP hkPi hy (a := b) (cell := cellB) hcell
    (fun z h => by rw [h] at hobj; cases hobj) hselP hmethM habM hkP hkPi (g := g) hg (argsL := argsL) (rest := rest) (hlen _ hsigM) hstack hdg
  rcases hK m meth c ⟨T.setVm vm₁, locs, cells, slots⟩ { g with stack := rest } (.invokevirtual index) mk (Value.ref b :: argsL).toArray X₁ hg hsize hdg hW (X₁.named hnamed) (hpre vm₁ X₁.warmed) with ⟨v, B, X', hpost, hsteps⟩ | ⟨q, B, X', hpost, hsteps⟩
  · exact Or.inl ⟨v, vm₁, B, X₁.warmed, X', hpost, fun target h => hstep₁ _ fun acts => by rw [doInvoke_state]; exact hsteps.trans h⟩
  · exact Or.inr ⟨q, vm₁, B, X₁.warmed, X', hpost, hstep₁ _ fun acts => by rw [doInvoke_state]; exact hsteps⟩
theorem vx_callS (X : Stand p l e R s m args below meth c T locs cells slots) (hexec : p.tables.exec = Jvm.exec) {own : String} {index : Nat} {y : MethodName} {bytes : ByteArray} {maxL : Nat} {ret : Option FieldType}
    (hown : s.vm.findClass own = some m.cls) (hlink : (Cond.methodLink own index y).before args s = true) (hstat : (Cond.static y).before args s = true) (hinit : (Cond.initialized y.cls).before args s = true)
    (hcode : (Cond.code y bytes maxL ret).before args s = true) (hy : y.cls ≠ "java/lang/invoke/MethodHandle" ∧ y.cls ≠ "java/lang/invoke/VarHandle")
    {W9 : Nat} {Pre : Pt → Array Value → Prop} {Post : Pt → Array Value → Option Value → Pt → Prop} {PostX : Pt → Array Value → Addr → Pt → Prop} (hK : vx_Back l R p e below s args y 3 W9 Pre Post PostX)
    {g : JFrame} (hg : g.method = m) (hsize : g.locals.size = c.maxLocals) {argsL rest : List Value} (hlen : ∀ sig, parseMethodDescriptor y.desc = some sig → argsL.length = sig.parameters.length)
    (hstack : g.stack = argsL.reverse ++ rest) (hW : 2 * g.monitorRoom + (rest.map fun v => v.category).sum ≤ W9) (hdg : decode c.code g.pc = .ok (.invokestatic index, 3))
    (hpre : ∀ vm₁, s.WarmedH vm₁ → Pre ⟨T.setVm vm₁, locs, cells, slots⟩ argsL.toArray) :
    (∃ (v : Option Value) (vm₁ : Vm) (B : Pt), s.WarmedH vm₁ ∧ Stand p l e R s m args below meth c B.U B.locs B.cells B.slots ∧ Post ⟨T.setVm vm₁, locs, cells, slots⟩ argsL.toArray v B ∧
      ∀ target, Steps p.tables e below (B.U.setTop { g with pc := g.pc + 3, stack := v.toList ++ rest }) target → Steps p.tables e below (T.setTop g) target) ∨
    (∃ (q : Addr) (vm₁ : Vm) (B : Pt), s.WarmedH vm₁ ∧ Stand p l e R s m args below meth c B.U B.locs B.cells B.slots ∧ PostX ⟨T.setVm vm₁, locs, cells, slots⟩ argsL.toArray q B ∧
      Steps p.tables e below (T.setTop g) ((B.U.setTop { g with stack := rest }).pushFrame (.throwing q))) := by
  obtain ⟨mk, hnamed⟩ := Cond.code_named hcode
  obtain ⟨methM, cM, hmethM, -, -, -, -, -, -, hsigM⟩ := Cond.code_spec hnamed hcode
  have hstatic : methM.isStatic = true := Cond.static_spec hnamed hmethM hstat
  obtain ⟨kP, hkP, -⟩ := className_of_methodNamed hnamed
  have hinitP : kP.init = .initialized := Cond.initialized_spec (findClass_of_methodNamed hnamed) hkP hinit
  obtain ⟨vm₁, X₁, hstep₁⟩ := X.invokestatic hexec hown hlink hnamed hmethM hstatic hkP hinitP hy (g := g) hg (argsL := argsL) (rest := rest) (hlen _ hsigM) hstack hdg
  rcases hK m meth c ⟨T.setVm vm₁, locs, cells, slots⟩ { g with stack := rest } (.invokestatic index) mk argsL.toArray X₁ hg hsize hdg hW (X₁.named hnamed) (hpre vm₁ X₁.warmed) with ⟨v, B, X', hpost, hsteps⟩ | ⟨q, B, X', hpost, hsteps⟩
  · exact Or.inl ⟨v, vm₁, B, X₁.warmed, X', hpost, fun target h => hstep₁ _ fun acts => by rw [doInvoke_state]; exact hsteps.trans h⟩
  · exact Or.inr ⟨q, vm₁, B, X₁.warmed, X', hpost, hstep₁ _ fun acts => by rw [doInvoke_state]; exact hsteps⟩
end Calls
theorem vx_cls {s : State} {T : State} {vm₁ : Vm} {E : String} {k : ClassId} (hW : s.WarmedH vm₁) (h : (T.setVm vm₁).vm.findClass E = some k) : s.vm.findClass E = some k := by
  have h1 : vm₁.findClass E = some k := h
  rw [hW.alike.findClass] at h1
  exact h1
/-- the method's frame g, with q thrown over it -/
def vx_W (p : Program) (l : Launch) (e : Env) (R : Room) (s : State) (m : MethodId) (args : Array Value) (below : List Frame) (meth : Method) (c : Code) (H : Heap) (locs : List Loc) (cells slots : Nat) (Q : State → Prop) (g : JFrame) (q : Addr) : Prop :=
  ∀ T : State, T.heap = H → Stand p l e R s m args below meth c T locs cells slots → ∃ t, Steps p.tables e below ((T.setTop g).pushFrame (.throwing q)) t ∧ Q t
def vx_Run (p : Program) (l : Launch) (e : Env) (R : Room) (s : State) (m : MethodId) (args : Array Value) (below : List Frame) (meth : Method) (c : Code) (H : Heap) (locs : List Loc) (cells slots mc ms : Nat) (g : JFrame) (rest : List Value) (Qa : State → Outcome → State → Prop) (XC : String → State → State → Prop) (free : Addr → Prop) : Prop :=
  ∀ T : State, T.heap = H → Stand p l e R s m args below meth c T locs cells slots →
    (∃ (v : Option Value) (st₀ t T' : State) (L : List Loc), st₀.heap = H ∧ Stand p l e R s m args below meth c T' (locs ++ L) (cells + mc) (slots + ms) ∧ (∀ q ∈ L, free q.base) ∧ T'.heap = t.heap ∧ T'.vm = t.vm ∧ Qa st₀ (.returned v) t ∧
      Goes p e below T g T' { g with pc := g.pc + 3, stack := v.toList ++ rest }) ∨
    (∃ (q : Addr) (st₀ t T' : State) (L : List Loc) (E : String) (ce : Cell), st₀.heap = H ∧ Stand p l e R s m args below meth c T' (locs ++ L) (cells + mc) (slots + ms) ∧ (∀ z ∈ L, free z.base) ∧ T'.heap = t.heap ∧ T'.vm = t.vm ∧ XC E st₀ t ∧ t.heap[q]? = some ce ∧ ce.vm = .none ∧ s.vm.findClass E = some ce.cls ∧
      Steps p.tables e below (T.setTop g) ((T'.setTop { g with stack := rest }).pushFrame (.throwing q)))
def vx_X {S : Type} (px : S → Prop) (B : String → S → State → Prop) (A : Nat → Prop) : String → State → State → Prop := fun E st t => ∃ u : S, px u ∧ B E u t ∧ va_F A st t
section Runs
variable {p : Program} {l : Launch} {e : Env} {R : Room} {s : State} {m : MethodId} {args : Array Value} {below : List Frame} {meth : Method} {c : Code} {H : Heap} {locs : List Loc} {cells slots : Nat}
variable {y : MethodName} {bytes cc : ByteArray} {maxL nL mc ms n index : Nat} {ret : Option FieldType} {ws : List Cond} {rm : Room} {Pc : Array Value → State → Prop} {Qc : Array Value → State → Outcome → State → Prop} {XC : String → State → State → Prop} {free : Addr → Prop} {Ts : List Cond} {own C : String} {b : Addr} {As rest : List Value} {g : JFrame}
theorem vx_callBack (cb : CallB R s args own index y bytes maxL ret ws rm mc ms n) (hM : vx_Met l y ws rm Pc Qc XC mc ms free) (hbl : FrameBlind Pc) : vx_Back l R p e below s args y 3 8 (PreOf R mc ms Pc) (PostOf Qc mc ms free) (vx_Post XC mc ms free) := by
  obtain ⟨hrc, hrs, hfr, hlo, hws, hcw, -, hini, -⟩ := cb
  exact vx_back (bytes := bytes) (maxL := maxL) (ret := ret) hM hbl hrc hrs hfr hlo hws hcw (fun a' U hW => word_at hW (Or.inl (by first | rfl | simp [Cond.onTables, Cond.keeps, Cond.steady])) hini)
theorem vx_runV (S : CallFix p m c cc nL s args Ts own) (hM : vx_Met l y ws rm Pc Qc XC mc ms free) (cw : CallW R s args own C index y bytes maxL ret ws rm mc ms n) (hp : PreV s H C b Pc As)
    (hg : g.method = m) (hn : As.length = n) (hsize : g.locals.size = nL) (hstack : g.stack = As.reverse ++ .ref b :: rest) (hW : 2 * g.monitorRoom + (rest.map fun v => v.category).sum ≤ 8) (hdg : decode cc g.pc = .ok (.invokevirtual index, 3)) (hf : cells + mc ≤ R.cells ∧ slots + ms ≤ R.slots) :
    vx_Run p l e R s m args below meth c H locs cells slots mc ms g rest (Qc (Value.ref b :: As).toArray) XC free := by
  have hK : vx_Back l R p e below s args y 3 8 (PreOf R mc ms Pc) (PostOf Qc mc ms free) (vx_Post XC mc ms free) := vx_callBack cw.1 hM hp.1
  obtain ⟨⟨-, -, -, -, -, -, hcode, -, hy, hlen, hl⟩, hin, hse⟩ := cw
  obtain ⟨hx, hb, hml, ho, -⟩ := S
  obtain ⟨-, ⟨cellB, hcB, hoB, hclB⟩, hPc⟩ := hp
  intro T hT X
  rcases vx_callV X hx (C := C) (bytes := bytes) (maxL := maxL) (ret := ret) ho hl hin hse hcode hy hK (by rw [hT]; exact hcB) hoB hclB hg (hsize.trans hml.symm) (argsL := As) (rest := rest) (fun sig h => hn.trans (hlen sig h)) hstack hW (by rw [hb]; exact hdg)
    (fun vm₁ hW₁ => ⟨hf.1, hf.2, hPc (T.setVm vm₁) hT hW₁⟩) with ⟨v, vm₁, ⟨U', l2, c2, s2⟩, hW₁, X', ⟨g', mk, t, L, e1, e2, hq, h1, hL, h2, h3⟩, st⟩ | ⟨q, vm₁, ⟨U', l2, c2, s2⟩, hW₁, X', ⟨g', mk, t, L, E, ce, e1, e2, hq, hce, hcv, hcl, h1, hL, h2, h3⟩, st⟩
  · dsimp only [Pt.U, Pt.locs, Pt.cells, Pt.slots] at X' e1 e2 h1 h2 h3 st
    subst h1; subst h2; subst h3
    exact Or.inl ⟨v, (T.setVm vm₁).calling g' mk (Value.ref b :: As).toArray, t, U', L, hT, X', hL, e1, e2, hq, st⟩
  · dsimp only [Pt.U, Pt.locs, Pt.cells, Pt.slots] at X' e1 e2 h1 h2 h3 st hcl
    subst h1; subst h2; subst h3
    exact Or.inr ⟨q, (T.setVm vm₁).calling g' mk (Value.ref b :: As).toArray, t, U', L, E, ce, hT, X', hL, e1, e2, hq, hce, hcv, vx_cls hW₁ hcl, st⟩
theorem vx_runS (S : CallFix p m c cc nL s args Ts own) (hM : vx_Met l y ws rm Pc Qc XC mc ms free) (cw : CallB R s args own index y bytes maxL ret ws rm mc ms n ∧ (Cond.static y).before args s = true) (hp : PreS s H Pc As)
    (hg : g.method = m) (hn : As.length = n) (hsize : g.locals.size = nL) (hstack : g.stack = As.reverse ++ rest) (hW : 2 * g.monitorRoom + (rest.map fun v => v.category).sum ≤ 8) (hdg : decode cc g.pc = .ok (.invokestatic index, 3)) (hf : cells + mc ≤ R.cells ∧ slots + ms ≤ R.slots) :
    vx_Run p l e R s m args below meth c H locs cells slots mc ms g rest (Qc As.toArray) XC free := by
  have hK : vx_Back l R p e below s args y 3 8 (PreOf R mc ms Pc) (PostOf Qc mc ms free) (vx_Post XC mc ms free) := vx_callBack cw.1 hM hp.1
  obtain ⟨⟨-, -, -, -, -, -, hcode, hini, hy, hlen, hl⟩, hstt⟩ := cw
  obtain ⟨hx, hb, hml, ho, -⟩ := S
  intro T hT X
  rcases vx_callS X hx (bytes := bytes) (maxL := maxL) (ret := ret) ho hl hstt hini hcode hy hK hg (hsize.trans hml.symm) (argsL := As) (rest := rest) (fun sig h => hn.trans (hlen sig h)) hstack hW (by rw [hb]; exact hdg)
    (fun vm₁ hW₁ => ⟨hf.1, hf.2, hp.2 (T.setVm vm₁) hT hW₁⟩) with ⟨v, vm₁, ⟨U', l2, c2, s2⟩, hW₁, X', ⟨g', mk, t, L, e1, e2, hq, h1, hL, h2, h3⟩, st⟩ | ⟨q, vm₁, ⟨U', l2, c2, s2⟩, hW₁, X', ⟨g', mk, t, L, E, ce, e1, e2, hq, hce, hcv, hcl, h1, hL, h2, h3⟩, st⟩
  · dsimp only [Pt.U, Pt.locs, Pt.cells, Pt.slots] at X' e1 e2 h1 h2 h3 st
    subst h1; subst h2; subst h3
    exact Or.inl ⟨v, (T.setVm vm₁).calling g' mk As.toArray, t, U', L, hT, X', hL, e1, e2, hq, st⟩
  · dsimp only [Pt.U, Pt.locs, Pt.cells, Pt.slots] at X' e1 e2 h1 h2 h3 st hcl
    subst h1; subst h2; subst h3
    exact Or.inr ⟨q, (T.setVm vm₁).calling g' mk As.toArray, t, U', L, E, ce, hT, X', hL, e1, e2, hq, hce, hcv, vx_cls hW₁ hcl, st⟩
end Runs
section Rows
variable {p : Program} {l : Launch} {e : Env} {R : Room} {s : State} {m : MethodId} {args : Array Value} {below : List Frame} {meth : Method} {c : Code} {H : Heap} {locs : List Loc} {cells slots : Nat} {Q : State → Prop}
variable {mc ms : Nat} {free : Addr → Prop} {A0 A1 : Nat → Prop} {H0 : Heap} {a : Array Value} {pc : Nat} {ls : Array Slot} {st0 rest : List Value}
theorem vx_keep {st₀ t T' : State} {L : List Loc} (h0 : st₀.heap = H) (e1 : T'.heap = t.heap) (hS : va_S A0 H0 H locs) (hA : ∀ q, q < H.size → A1 q → A0 q) (hf : ∀ q, free q → A0 q) (hL : ∀ q ∈ L, free q.base) (hF : va_F A1 st₀ t) :
    H.size ≤ T'.heap.size ∧ (∀ q : Nat, q < H.size → ¬ A1 q → T'.heap[q]? = H[q]?) ∧ va_S A0 H0 T'.heap (locs ++ L) := by
  obtain ⟨hz, hk⟩ := hF
  rw [h0] at hz hk
  exact ⟨by rw [e1]; exact hz, fun q h1 h2 => by rw [e1]; exact hk q h1 h2,
    ⟨Nat.le_trans hS.1 (by rw [e1]; exact hz), fun q h1 h2 => by rw [e1, hk q (Nat.lt_of_lt_of_le h1 hS.1) (fun z => h2 (hA q (Nat.lt_of_lt_of_le h1 hS.1) z))]; exact hS.2.1 q h1 h2, fun q hq => by
      rcases List.mem_append.mp hq with h | h
      · exact hS.2.2 q h
      · exact hf _ (hL q h)⟩⟩
theorem vx_calli {S SX : Type} {post : Int32 → S → Prop} {px : SX → Prop} {B : S → State → Prop} {BX : String → SX → State → Prop} {AX : Nat → Prop} (hr : vx_Run p l e R s m args below meth c H locs cells slots mc ms (F0 m pc ls st0) rest (va_Qi post B A1 a) (vx_X px BX AX) free) (hS : va_S A0 H0 H locs) (hA : ∀ q, q < H.size → A1 q → A0 q) (hf : ∀ q, free q → A0 q) (hAX : ∀ q, q < H.size → AX q → A0 q)
    (kx : ∀ (E : String) (ce : Cell) (q9 : Addr) (u : SX) (t : State) (H1 : Heap) (locs1 : List Loc), t.heap = H1 → s.vm.Alike t.vm → px u → BX E u t → H.size ≤ H1.size → (∀ q : Nat, q < H.size → ¬ AX q → H1[q]? = H[q]?) → va_S A0 H0 H1 locs1 → H1[q9]? = some ce → ce.vm = .none → s.vm.findClass E = some ce.cls → vx_W p l e R s m args below meth c H1 locs1 (cells + mc) (slots + ms) Q (F0 m pc ls rest) q9)
    (kk : ∀ (r : Int32) (u : S) (t : State) (H1 : Heap) (locs1 : List Loc), t.heap = H1 → s.vm.Alike t.vm → post r u → B u t → H.size ≤ H1.size → (∀ q : Nat, q < H.size → ¬ A1 q → H1[q]? = H[q]?) → va_S A0 H0 H1 locs1 → W p l e R s m args below meth c H1 locs1 (cells + mc) (slots + ms) Q (F0 m (pc + 3) ls (.int r :: rest))) : W p l e R s m args below meth c H locs cells slots Q (F0 m pc ls st0) := by
  intro T hT X
  rcases hr T hT X with ⟨v, st₀, t, T', L, h0, X', hL, e1, e2, ⟨⟨r, u, hv, hp, hb⟩, hF⟩, st⟩ | ⟨q, st₀, t, T', L, E, ce, h0, X', hL, e1, e2, ⟨u, hp, hb, hF⟩, hce, hcv, hcl, st⟩
  · cases hv
    obtain ⟨k1, k2, k3⟩ := vx_keep h0 e1 hS hA hf hL hF
    obtain ⟨t2, a1, b1⟩ := kk r u t T'.heap (locs ++ L) e1.symm (by rw [← e2]; exact X'.warmed.alike) hp hb k1 k2 k3 T' rfl X'
    exact ⟨t2, st t2 a1, b1⟩
  · obtain ⟨k1, k2, k3⟩ := vx_keep h0 e1 hS hAX hf hL hF
    obtain ⟨t2, a1, b1⟩ := kx E ce q u t T'.heap (locs ++ L) e1.symm (by rw [← e2]; exact X'.warmed.alike) hp hb k1 k2 k3 (by rw [e1]; exact hce) hcv hcl T' rfl X'
    exact ⟨t2, st.trans a1, b1⟩
theorem vx_calll {S SX : Type} {post : Int64 → S → Prop} {px : SX → Prop} {B : S → State → Prop} {BX : String → SX → State → Prop} {AX : Nat → Prop} (hr : vx_Run p l e R s m args below meth c H locs cells slots mc ms (F0 m pc ls st0) rest (va_Ql post B A1 a) (vx_X px BX AX) free) (hS : va_S A0 H0 H locs) (hA : ∀ q, q < H.size → A1 q → A0 q) (hf : ∀ q, free q → A0 q) (hAX : ∀ q, q < H.size → AX q → A0 q)
    (kx : ∀ (E : String) (ce : Cell) (q9 : Addr) (u : SX) (t : State) (H1 : Heap) (locs1 : List Loc), t.heap = H1 → s.vm.Alike t.vm → px u → BX E u t → H.size ≤ H1.size → (∀ q : Nat, q < H.size → ¬ AX q → H1[q]? = H[q]?) → va_S A0 H0 H1 locs1 → H1[q9]? = some ce → ce.vm = .none → s.vm.findClass E = some ce.cls → vx_W p l e R s m args below meth c H1 locs1 (cells + mc) (slots + ms) Q (F0 m pc ls rest) q9)
    (kk : ∀ (r : Int64) (u : S) (t : State) (H1 : Heap) (locs1 : List Loc), t.heap = H1 → s.vm.Alike t.vm → post r u → B u t → H.size ≤ H1.size → (∀ q : Nat, q < H.size → ¬ A1 q → H1[q]? = H[q]?) → va_S A0 H0 H1 locs1 → W p l e R s m args below meth c H1 locs1 (cells + mc) (slots + ms) Q (F0 m (pc + 3) ls (.long r :: rest))) : W p l e R s m args below meth c H locs cells slots Q (F0 m pc ls st0) := by
  intro T hT X
  rcases hr T hT X with ⟨v, st₀, t, T', L, h0, X', hL, e1, e2, ⟨⟨r, u, hv, hp, hb⟩, hF⟩, st⟩ | ⟨q, st₀, t, T', L, E, ce, h0, X', hL, e1, e2, ⟨u, hp, hb, hF⟩, hce, hcv, hcl, st⟩
  · cases hv
    obtain ⟨k1, k2, k3⟩ := vx_keep h0 e1 hS hA hf hL hF
    obtain ⟨t2, a1, b1⟩ := kk r u t T'.heap (locs ++ L) e1.symm (by rw [← e2]; exact X'.warmed.alike) hp hb k1 k2 k3 T' rfl X'
    exact ⟨t2, st t2 a1, b1⟩
  · obtain ⟨k1, k2, k3⟩ := vx_keep h0 e1 hS hAX hf hL hF
    obtain ⟨t2, a1, b1⟩ := kx E ce q u t T'.heap (locs ++ L) e1.symm (by rw [← e2]; exact X'.warmed.alike) hp hb k1 k2 k3 (by rw [e1]; exact hce) hcv hcl T' rfl X'
    exact ⟨t2, st.trans a1, b1⟩
theorem vx_callf {S SX : Type} {post : UInt32 → S → Prop} {px : SX → Prop} {B : S → State → Prop} {BX : String → SX → State → Prop} {AX : Nat → Prop} (hr : vx_Run p l e R s m args below meth c H locs cells slots mc ms (F0 m pc ls st0) rest (va_Qf post B A1 a) (vx_X px BX AX) free) (hS : va_S A0 H0 H locs) (hA : ∀ q, q < H.size → A1 q → A0 q) (hf : ∀ q, free q → A0 q) (hAX : ∀ q, q < H.size → AX q → A0 q)
    (kx : ∀ (E : String) (ce : Cell) (q9 : Addr) (u : SX) (t : State) (H1 : Heap) (locs1 : List Loc), t.heap = H1 → s.vm.Alike t.vm → px u → BX E u t → H.size ≤ H1.size → (∀ q : Nat, q < H.size → ¬ AX q → H1[q]? = H[q]?) → va_S A0 H0 H1 locs1 → H1[q9]? = some ce → ce.vm = .none → s.vm.findClass E = some ce.cls → vx_W p l e R s m args below meth c H1 locs1 (cells + mc) (slots + ms) Q (F0 m pc ls rest) q9)
    (kk : ∀ (r : UInt32) (u : S) (t : State) (H1 : Heap) (locs1 : List Loc), t.heap = H1 → s.vm.Alike t.vm → post r u → B u t → H.size ≤ H1.size → (∀ q : Nat, q < H.size → ¬ A1 q → H1[q]? = H[q]?) → va_S A0 H0 H1 locs1 → W p l e R s m args below meth c H1 locs1 (cells + mc) (slots + ms) Q (F0 m (pc + 3) ls (.float r :: rest))) : W p l e R s m args below meth c H locs cells slots Q (F0 m pc ls st0) := by
  intro T hT X
  rcases hr T hT X with ⟨v, st₀, t, T', L, h0, X', hL, e1, e2, ⟨⟨r, u, hv, hp, hb⟩, hF⟩, st⟩ | ⟨q, st₀, t, T', L, E, ce, h0, X', hL, e1, e2, ⟨u, hp, hb, hF⟩, hce, hcv, hcl, st⟩
  · cases hv
    obtain ⟨k1, k2, k3⟩ := vx_keep h0 e1 hS hA hf hL hF
    obtain ⟨t2, a1, b1⟩ := kk r u t T'.heap (locs ++ L) e1.symm (by rw [← e2]; exact X'.warmed.alike) hp hb k1 k2 k3 T' rfl X'
    exact ⟨t2, st t2 a1, b1⟩
  · obtain ⟨k1, k2, k3⟩ := vx_keep h0 e1 hS hAX hf hL hF
    obtain ⟨t2, a1, b1⟩ := kx E ce q u t T'.heap (locs ++ L) e1.symm (by rw [← e2]; exact X'.warmed.alike) hp hb k1 k2 k3 (by rw [e1]; exact hce) hcv hcl T' rfl X'
    exact ⟨t2, st.trans a1, b1⟩
theorem vx_calld {S SX : Type} {post : UInt64 → S → Prop} {px : SX → Prop} {B : S → State → Prop} {BX : String → SX → State → Prop} {AX : Nat → Prop} (hr : vx_Run p l e R s m args below meth c H locs cells slots mc ms (F0 m pc ls st0) rest (va_Qd post B A1 a) (vx_X px BX AX) free) (hS : va_S A0 H0 H locs) (hA : ∀ q, q < H.size → A1 q → A0 q) (hf : ∀ q, free q → A0 q) (hAX : ∀ q, q < H.size → AX q → A0 q)
    (kx : ∀ (E : String) (ce : Cell) (q9 : Addr) (u : SX) (t : State) (H1 : Heap) (locs1 : List Loc), t.heap = H1 → s.vm.Alike t.vm → px u → BX E u t → H.size ≤ H1.size → (∀ q : Nat, q < H.size → ¬ AX q → H1[q]? = H[q]?) → va_S A0 H0 H1 locs1 → H1[q9]? = some ce → ce.vm = .none → s.vm.findClass E = some ce.cls → vx_W p l e R s m args below meth c H1 locs1 (cells + mc) (slots + ms) Q (F0 m pc ls rest) q9)
    (kk : ∀ (r : UInt64) (u : S) (t : State) (H1 : Heap) (locs1 : List Loc), t.heap = H1 → s.vm.Alike t.vm → post r u → B u t → H.size ≤ H1.size → (∀ q : Nat, q < H.size → ¬ A1 q → H1[q]? = H[q]?) → va_S A0 H0 H1 locs1 → W p l e R s m args below meth c H1 locs1 (cells + mc) (slots + ms) Q (F0 m (pc + 3) ls (.double r :: rest))) : W p l e R s m args below meth c H locs cells slots Q (F0 m pc ls st0) := by
  intro T hT X
  rcases hr T hT X with ⟨v, st₀, t, T', L, h0, X', hL, e1, e2, ⟨⟨r, u, hv, hp, hb⟩, hF⟩, st⟩ | ⟨q, st₀, t, T', L, E, ce, h0, X', hL, e1, e2, ⟨u, hp, hb, hF⟩, hce, hcv, hcl, st⟩
  · cases hv
    obtain ⟨k1, k2, k3⟩ := vx_keep h0 e1 hS hA hf hL hF
    obtain ⟨t2, a1, b1⟩ := kk r u t T'.heap (locs ++ L) e1.symm (by rw [← e2]; exact X'.warmed.alike) hp hb k1 k2 k3 T' rfl X'
    exact ⟨t2, st t2 a1, b1⟩
  · obtain ⟨k1, k2, k3⟩ := vx_keep h0 e1 hS hAX hf hL hF
    obtain ⟨t2, a1, b1⟩ := kx E ce q u t T'.heap (locs ++ L) e1.symm (by rw [← e2]; exact X'.warmed.alike) hp hb k1 k2 k3 (by rw [e1]; exact hce) hcv hcl T' rfl X'
    exact ⟨t2, st.trans a1, b1⟩
theorem vx_callv {S SX : Type} {post : S → Prop} {px : SX → Prop} {B : S → State → Prop} {BX : String → SX → State → Prop} {AX : Nat → Prop} (hr : vx_Run p l e R s m args below meth c H locs cells slots mc ms (F0 m pc ls st0) rest (va_Qv post B A1 a) (vx_X px BX AX) free) (hS : va_S A0 H0 H locs) (hA : ∀ q, q < H.size → A1 q → A0 q) (hf : ∀ q, free q → A0 q) (hAX : ∀ q, q < H.size → AX q → A0 q)
    (kx : ∀ (E : String) (ce : Cell) (q9 : Addr) (u : SX) (t : State) (H1 : Heap) (locs1 : List Loc), t.heap = H1 → s.vm.Alike t.vm → px u → BX E u t → H.size ≤ H1.size → (∀ q : Nat, q < H.size → ¬ AX q → H1[q]? = H[q]?) → va_S A0 H0 H1 locs1 → H1[q9]? = some ce → ce.vm = .none → s.vm.findClass E = some ce.cls → vx_W p l e R s m args below meth c H1 locs1 (cells + mc) (slots + ms) Q (F0 m pc ls rest) q9)
    (kk : ∀ (u : S) (t : State) (H1 : Heap) (locs1 : List Loc), t.heap = H1 → s.vm.Alike t.vm → post u → B u t → H.size ≤ H1.size → (∀ q : Nat, q < H.size → ¬ A1 q → H1[q]? = H[q]?) → va_S A0 H0 H1 locs1 → W p l e R s m args below meth c H1 locs1 (cells + mc) (slots + ms) Q (F0 m (pc + 3) ls (rest))) : W p l e R s m args below meth c H locs cells slots Q (F0 m pc ls st0) := by
  intro T hT X
  rcases hr T hT X with ⟨v, st₀, t, T', L, h0, X', hL, e1, e2, ⟨⟨u, hv, hp, hb⟩, hF⟩, st⟩ | ⟨q, st₀, t, T', L, E, ce, h0, X', hL, e1, e2, ⟨u, hp, hb, hF⟩, hce, hcv, hcl, st⟩
  · cases hv
    obtain ⟨k1, k2, k3⟩ := vx_keep h0 e1 hS hA hf hL hF
    obtain ⟨t2, a1, b1⟩ := kk u t T'.heap (locs ++ L) e1.symm (by rw [← e2]; exact X'.warmed.alike) hp hb k1 k2 k3 T' rfl X'
    exact ⟨t2, st t2 a1, b1⟩
  · obtain ⟨k1, k2, k3⟩ := vx_keep h0 e1 hS hAX hf hL hF
    obtain ⟨t2, a1, b1⟩ := kx E ce q u t T'.heap (locs ++ L) e1.symm (by rw [← e2]; exact X'.warmed.alike) hp hb k1 k2 k3 (by rw [e1]; exact hce) hcv hcl T' rfl X'
    exact ⟨t2, st.trans a1, b1⟩
/-- caught by the row x of this method's table; the rows ahead don't take it -/
theorem vx_catch {own name : String} {E : String} {ce : Cell} {q : Addr} (hown : s.vm.findClass own = some m.cls) (pre : List ExceptionTableEntry) (x : ExceptionTableEntry) (suf : List ExceptionTableEntry) (hsplit : c.exceptionTable.toList = pre ++ x :: suf)
    (hpass : ∀ z ∈ pre, covers z pc = false ∨ (z.catchType ≠ 0 ∧ ∃ nm : String, (Cond.classLink own z.catchType nm).before args s = true ∧ va_Nc E nm s)) (hx : covers x pc = true) (h0 : x.catchType ≠ 0)
    (hlink : (Cond.classLink own x.catchType name).before args s = true) (hcast : (Cond.castable E name).before args s = true) (hcell : H[q]? = some ce) (hv : ce.vm = .none) (hcl : s.vm.findClass E = some ce.cls)
    (kk : W p l e R s m args below meth c H locs cells slots Q (F0 m x.handlerPc ls [.ref q])) : vx_W p l e R s m args below meth c H locs cells slots Q (F0 m pc ls rest) q := by
  intro T hT X
  have hpl : e.platform.magicAccessors = ({} : Platform).magicAccessors := by rw [X.admits.platform]
  obtain ⟨c3, c4, hc3, hc4, hasg⟩ := Cond.castable_spec hcast
  cases Option.some.inj (hc3.symm.trans hcl)
  obtain ⟨c5, hc5, hcl5⟩ := Cond.classLink_spec hown hlink e.platform hpl
  cases Option.some.inj (hc4.symm.trans hc5)
  obtain ⟨vm', X', st⟩ := X.thenCaughtThrough q (g := F0 m pc ls rest) rfl (Steps.refl _) (by rw [hT]; exact hcell) (by rw [hv]; rfl) (by obtain ⟨k9, h9, -⟩ := Vm.findClass_spec hcl; exact ⟨k9, h9⟩) pre x suf hsplit
    (fun z hz => by
      rcases hpass z hz with h | ⟨hz0, nm, hl1, hn1⟩
      · exact Or.inl h
      · obtain ⟨c6, hc6, hcl6⟩ := Cond.classLink_spec hown hl1 e.platform hpl
        obtain ⟨a8, b8, h1, h2, h3⟩ := hn1
        cases Option.some.inj (h1.symm.trans hcl)
        cases Option.some.inj (h2.symm.trans hc6)
        exact Or.inr ⟨hz0, _, hcl6, h3⟩) hx (Or.inr ⟨h0, c4, hcl5, hasg⟩)
  obtain ⟨t, a1, b1⟩ := kk (T.setVm vm') hT X'
  exact ⟨t, st.trans a1, b1⟩
end Rows
section Ends
variable {p : Program} {l : Launch} {e : Env} {R : Room} {s : State} {m : MethodId} {args : Array Value} {below : List Frame} {meth : Method} {c : Code} {H : Heap} {locs : List Loc} {cells slots : Nat} {Q : State → Prop}
variable {mc ms : Nat} {free : Addr → Prop} {A0 A1 : Nat → Prop} {H0 : Heap} {a : Array Value} {ls : Array Slot} {st0 rest : List Value}
variable {Qc : Array Value → State → Outcome → State → Prop} {XC : String → State → State → Prop}
/-- what a body that may throw owes at its end -/
def vx_MQ (below : List Frame) (Qc : Array Value → State → Outcome → State → Prop) (XC : String → State → State → Prop) (a : Array Value) (s : State) (mc ms : Nat) (free : Addr → Prop) : State → Prop := fun t =>
  ∃ o, t.status = .running ∧ Ended t below o ∧ vx_Q Qc XC mc ms free a s o t
theorem vx_ret {g : JFrame} {mc ms : Nat} (k : W p l e R s m args below meth c H locs cells slots (MQ below Qc args s mc ms free) g) : W p l e R s m args below meth c H locs cells slots (vx_MQ below Qc XC args s mc ms free) g := by
  intro T hT X
  obtain ⟨t, a1, o, b1, b2, b3, b4⟩ := k T hT X
  exact ⟨t, a1, o, b1, b2, Or.inl ⟨b3, b4⟩⟩
/-- not caught here: it goes on to the caller -/
theorem vx_widen {g : JFrame} {q : Addr} {k n : Nat} (h1 : cells ≤ k) (h2 : slots ≤ n) (kk : vx_W p l e R s m args below meth c H locs k n Q g q) : vx_W p l e R s m args below meth c H locs cells slots Q g q := fun T hT X => kk T hT (stand_widen X h1 h2)
theorem vx_out {pc : Nat} {E : String} {ce : Cell} {q : Addr} {mc ms : Nat} (hout : ∀ x ∈ c.exceptionTable.toList, covers x pc = false) (hlocks : meth.locks = false) (hcell : H[q]? = some ce) (hv : ce.vm = .none) (hcl : s.vm.findClass E = some ce.cls)
    (hx : ∀ t : State, t.heap = H → s.vm.Alike t.vm → XC E s t) (hf : ∀ z ∈ locs, free z.base) (hc : cells ≤ mc) (hs : slots ≤ ms) :
    vx_W p l e R s m args below meth c H locs cells slots (vx_MQ below Qc XC args s mc ms free) (F0 m pc ls rest) q := by
  intro T hT X
  obtain ⟨st1, hrun, hend, hW, hsm⟩ := X.leaveThrown q (g := F0 m pc ls rest) rfl rfl rfl hout hlocks
  have hcell9 : (T.setFrames (.throwing q :: below)).heap[q]? = some ce := by
    show T.heap[q]? = some ce
    rw [hT]; exact hcell
  exact ⟨_, st1, .threw q, hrun, hend, Or.inr ⟨q, rfl, E, ce, locs, hx _ hT hW.alike, hcell9, hv, hcl, hW, hsm.mono hc hs, hf⟩⟩
theorem vx_frame {U : State} {k n : Nat} (h : s.sameButNew ({ U with vm := s.vm } : State) locs k n) : s.heap.size ≤ U.heap.size ∧ ∀ q : Nat, q < s.heap.size → (∀ z ∈ locs, z.base ≠ q) → U.heap[q]? = s.heap[q]? := by
  obtain ⟨-, h2, -, -, -, h6⟩ := h
  refine ⟨h2, fun q hq hz => ?_⟩
  obtain ⟨c9, e1, e2, e3, e4⟩ := h6 q _ (Array.getElem?_eq_getElem hq)
  have hs : c9.slots = (s.heap[q]).slots := Array.ext_getElem? fun i => e4 i fun hm => hz _ hm rfl
  have h9 : c9 = s.heap[q] := by
    rw [hs] at e2
    exact e2
  have e5 : U.heap[q]? = some c9 := e1
  rw [e5, h9, Array.getElem?_eq_getElem hq]
/-- the words of a throw but the four that speak of the heap -/
def vx_no (w : Cond) : Bool := decide (w ≠ .isRef (.static Bundle.tN "UNASSIGNED_STACK" Bundle.steD)) && decide (w ≠ .isRef (.static Bundle.tN "SUPPRESSED_SENTINEL" Bundle.listD)) && decide (w ≠ .laysStatic Bundle.tN "UNASSIGNED_STACK" Bundle.steD) && decide (w ≠ .laysStatic Bundle.tN "SUPPRESSED_SENTINEL" Bundle.listD)
def vx_at0 (own : String) (ic : Nat) (X : String) (names : List String) : List Cond := (Bundle.ownAtoms0 own ic X names).filter vx_no
def vx_atS (own : String) (ic : Nat) (X : String) (names : List String) : List Cond := (Bundle.ownAtoms own ic X names).filter vx_no
/-- a word that the tables alone decide, or a good one -/
def vx_ot (w : Cond) : Bool := w.onTables || goodWord w
theorem vx_ot_at {args a' : Array Value} {s U : State} {w : Cond} (hW : s.WarmedH U.vm) (hvm : s.vm = U.vm) (hg : vx_ot w = true) (h : w.before args s = true) : w.before a' U = true := by
  simp only [vx_ot, Bool.or_eq_true] at hg
  rcases hg with hg | hg
  · exact va_tabs hg hvm h
  · exact word_at hW (good_of_word hg) h
/-- a list's words: the good ones out of the method's own list, the others by premises of their own -/
theorem vx_hat {args : Array Value} {s : State} {L B : List Cond} (h1 : ∀ w ∈ L.filter goodWord, w.before args s = true) (h2 : ∀ w ∈ L.filter (fun w => !goodWord w), w ∈ B) (h3 : ∀ w ∈ B, w.before args s = true) : ∀ w ∈ L, w.before args s = true := by
  intro w hw
  by_cases g : goodWord w = true
  · exact h1 w (List.mem_filter.mpr ⟨hw, g⟩)
  · refine h3 w (h2 w (List.mem_filter.mpr ⟨hw, ?_⟩))
    show (!goodWord w) = true
    cases hgw : goodWord w
    · rfl
    · exact absurd hgw g
theorem vx_c {args : Array Value} {s : State} {w : Cond} {B : List Cond} (h : w.before args s = true) (t : ∀ w ∈ B, w.before args s = true) : ∀ w' ∈ w :: B, w'.before args s = true := fun w' h' => (List.mem_cons.mp h').elim (fun e => by rw [e]; exact h) (t w')
theorem vx_n {args : Array Value} {s : State} : ∀ w ∈ ([] : List Cond), w.before args s = true := fun _ h => nomatch h
theorem vx_own {args : Array Value} {s : State} {L : List Cond} (h1 : ∀ w ∈ L.filter vx_no, w.before args s = true)
    (hU : (Cond.isRef (.static Bundle.tN "UNASSIGNED_STACK" Bundle.steD)).before args s = true) (hN : (Cond.isRef (.static Bundle.tN "SUPPRESSED_SENTINEL" Bundle.listD)).before args s = true)
    (lU : (Cond.laysStatic Bundle.tN "UNASSIGNED_STACK" Bundle.steD).before args s = true) (lN : (Cond.laysStatic Bundle.tN "SUPPRESSED_SENTINEL" Bundle.listD).before args s = true) : ∀ w ∈ L, w.before args s = true := by
  intro w hw
  by_cases e1 : w = .isRef (.static Bundle.tN "UNASSIGNED_STACK" Bundle.steD)
  · rw [e1]; exact hU
  · by_cases e2 : w = .isRef (.static Bundle.tN "SUPPRESSED_SENTINEL" Bundle.listD)
    · rw [e2]; exact hN
    · by_cases e3 : w = .laysStatic Bundle.tN "UNASSIGNED_STACK" Bundle.steD
      · rw [e3]; exact lU
      · by_cases e4 : w = .laysStatic Bundle.tN "SUPPRESSED_SENTINEL" Bundle.listD
        · rw [e4]; exact lN
        · exact h1 w (List.mem_filter.mpr ⟨hw, by unfold vx_no; rw [decide_eq_true e1, decide_eq_true e2, decide_eq_true e3, decide_eq_true e4]; rfl⟩)
/-- where a static field lies, its class's statics cell in H -/
def vx_L (C n d : String) (A : Nat → Prop) (U : State) (H : Heap) : Prop := ∃ (c : ClassId) (k : Class) (i : Nat) (f : Field) (a : Nat) (cell : Cell), U.vm.findClass C = some c ∧ U.fieldFound? C n d = some (c, k, i, f) ∧ f.isStatic = true ∧ k.statics = some a ∧ H[a]? = some cell ∧ cell.vm.isStatics = true ∧ cell.cls = c ∧ f.slot < cell.slots.size ∧ k.staticTypes[f.slot]? = some f.type ∧ ¬ A a
theorem vx_L.moved {C n d : String} {A : Nat → Prop} {u U : State} {H : Heap} (hvm : u.vm.Alike U.vm) (h : vx_L C n d A u H) : vx_L C n d A U H := by
  obtain ⟨c, k, i, f, a, cell, h1, h2, h3, h4, h5, h6, h7, h8, h9, h10⟩ := h
  obtain ⟨k', hi', he⟩ := State.fieldFound?_setVm hvm h2
  exact ⟨c, k', i, f, a, cell, by rw [hvm.findClass]; exact h1, hi', h3, by rw [he]; exact h4, h5, h6, h7, h8, by rw [he]; exact h9, h10⟩
theorem vx_L.kept {C n d : String} {A : Nat → Prop} {U : State} {H H1 : Heap} (h : vx_L C n d A U H) (hq : ∀ a : Nat, a < H.size → ¬ A a → H1[a]? = H[a]?) : vx_L C n d A U H1 := by
  obtain ⟨c, k, i, f, a, cell, h1, h2, h3, h4, h5, h6, h7, h8, h9, h10⟩ := h
  exact ⟨c, k, i, f, a, cell, h1, h2, h3, h4, by rw [hq a (Array.getElem?_eq_some_iff.mp h5).1 h10]; exact h5, h6, h7, h8, h9, h10⟩
theorem vx_L.narrow {C n d : String} {A B : Nat → Prop} {U : State} {H : Heap} (h : vx_L C n d A U H) (hAB : ∀ q, B q → A q) : vx_L C n d B U H := by
  obtain ⟨c, k, i, f, a, cell, h1, h2, h3, h4, h5, h6, h7, h8, h9, h10⟩ := h
  exact ⟨c, k, i, f, a, cell, h1, h2, h3, h4, h5, h6, h7, h8, h9, fun z => h10 (hAB _ z)⟩
theorem vx_L.word {C n d : String} {A : Nat → Prop} {s : State} {args : Array Value} (h : vx_L C n d A s s.heap) : (Cond.laysStatic C n d).before args s = true := by
  obtain ⟨c, k, i, f, a, cell, h1, h2, h3, h4, h5, h6, h7, h8, h9, -⟩ := h
  show (Cond.laysStatic C n d).holds args s none s [] = true
  exact Cond.laysStatic_of h1 h2 h3 h4 h5 h6 h7 h8 h9
/-- .. and what it holds: null or some reference -/
def vx_Zq (C n d : String) (A : Nat → Prop) (U : State) (H : Heap) : Prop := va_Zq C n d A U H ∧ vx_L C n d A U H
theorem vx_Zq.moved {C n d : String} {A : Nat → Prop} {u U : State} {H : Heap} (hvm : u.vm.Alike U.vm) (h : vx_Zq C n d A u H) : vx_Zq C n d A U H := ⟨va_Zq.moved hvm h.1, vx_L.moved hvm h.2⟩
theorem vx_Zq.kept {C n d : String} {A : Nat → Prop} {U : State} {H H1 : Heap} (h : vx_Zq C n d A U H) (hq : ∀ a : Nat, a < H.size → ¬ A a → H1[a]? = H[a]?) : vx_Zq C n d A U H1 := ⟨va_Zq.kept h.1 hq, vx_L.kept h.2 hq⟩
theorem vx_Zq.narrow {C n d : String} {A B : Nat → Prop} {U : State} {H : Heap} (h : vx_Zq C n d A U H) (hAB : ∀ q, B q → A q) : vx_Zq C n d B U H := ⟨va_Zq.narrow h.1 hAB, vx_L.narrow h.2 hAB⟩
theorem vx_Zqof {args : Array Value} {s : State} {C n d : String} {A : Nat → Prop} (hl : (Cond.laysStatic C n d).before args s = true) (hini : (Cond.initialized C).before args s = true) (h : (Cond.isRef (.static C n d)).before args s = true) (hA : ∀ a : Nat, a < s.heap.size → ¬ A a) : vx_Zq C n d A s s.heap := by
  refine ⟨va_Zqof hl hini h hA, ?_⟩
  obtain ⟨c, k, i, f, a, cell, h1, h2, h3, h4, h5, h6, h7, h8, h9⟩ := Cond.laysStatic_spec hl
  exact ⟨c, k, i, f, a, cell, h1, h2, h3, h4, h5, h6, h7, h8, h9, hA a (Array.getElem?_eq_some_iff.mp h5).1⟩
theorem vx_isRef {C n d : String} {v : Value} {A : Nat → Prop} {s : State} {args : Array Value} (h : va_Z C n d v A s s.heap) (hv : v.isRef = true) : (Cond.isRef (.static C n d)).before args s = true := by
  obtain ⟨cf, kf, fi, f, a, cell, h1, h2, h3, h4, h5, h6, h7, -⟩ := h
  have he : (Term.static C n d).eval args s none [] s = some v := by
    simp [Term.eval, State.fieldNamed?, h1, h2, h4, h5, h6, h7]
  simp only [Cond.before, Cond.holds, Cond.value, he]
  cases v <;> simp_all [Value.isRef]
theorem vx_isRefq {C n d : String} {A : Nat → Prop} {s : State} {args : Array Value} (h : va_Zq C n d A s s.heap) : (Cond.isRef (.static C n d)).before args s = true := by
  rcases h with h | ⟨t, h⟩
  · exact vx_isRef h rfl
  · exact vx_isRef h rfl
/-- the same frame, seen from here: as if the method were called anew in this heap -/
theorem vx_rebase {T : State} (X : Stand p l e R s m args below meth c T locs cells slots) {R' : Room} (hf : R'.frames ≤ R.frames) (hl : R'.locals ≤ R.locals) (hc : cells + R'.cells ≤ R.cells) (hs : slots + R'.slots ≤ R.slots) :
    Stand p l e R' ((T.setVm s.vm).setFrames (.invoking m args :: below)) m args below meth c T [] 0 0 := by
  have htop : (T.setVm s.vm).topJava?.isSome := X.here.top
  have hF : ((T.setVm s.vm).setFrames (.invoking m args :: below)).frames = .invoking m args :: below := State.frames_setFrames _ (State.cur_lt_of_top htop)
  obtain ⟨g₀, hg0⟩ := Option.isSome_iff_exists.mp htop
  obtain ⟨r, hr⟩ := State.topJava?_eq_some.mp hg0
  have hl9 : e.platform.stackLimits (T.setVm s.vm).me = e.platform.stackLimits s.me := X.limits
  have hb9 : (T.setVm s.vm).me.stackBytes = s.me.stackBytes := X.bytes
  refine ⟨X.admits, X.cas, X.clock, hF, ?_, X.hears, X.method, X.code, X.here, X.tail, X.warmed, ?_, ?_, ?_⟩
  · have h := X.room
    have hU : ((T.setVm s.vm).setFrames (.invoking m args :: below)).localsInUse = s.localsInUse := by
      rw [State.localsInUse_invoking hF (meth := meth) (c := c) X.method X.code, State.localsInUse_invoking X.frames X.method X.code]
    simp only [State.hasRoom, Bool.and_eq_true, decide_eq_true_eq] at h ⊢
    obtain ⟨⟨⟨⟨h1, h2, h3, h4, h5, h6⟩, h7⟩, h8⟩, h9⟩ := h
    rw [X.frames, List.length_cons] at h2 h3
    have q1 := X.heapSize
    have q2 := X.used
    simp only [hF, hU, List.length_cons, State.stackLimits_setFrames, State.stackBytes_setFrames, hl9, hb9]
    refine ⟨⟨⟨⟨by omega, by omega, by omega, by omega, by omega, h6⟩, ?_⟩, ?_⟩, X.book⟩
    · show T.heap.size + R'.cells ≤ e.platform.maxCells
      omega
    · show T.slotsUsed + R'.slots ≤ e.platform.maxSlots
      omega
  · rw [State.stackLimits_setFrames]; rfl
  · rw [State.stackBytes_setFrames]; rfl
  · refine ⟨?_, Nat.le_refl _, Nat.le_refl _, ?_, ?_, fun a c9 h9 => ⟨c9, h9, rfl, rfl, fun _ _ => rfl⟩⟩
    · obtain ⟨t, ht, -⟩ := State.frames_cons hr
      show T.setVm s.vm = { ((T.setVm s.vm).setFrames (.invoking m args :: below)).setFrames (T.setVm s.vm).frames with heap := T.heap, slotsUsed := T.slotsUsed }
      rw [State.setFrames_setFrames, State.setFrames_self ht]
      rfl
    · show T.slotsUsed = T.slotsUsed + ((T.heap.toList.drop T.heap.size).map (·.slots.size)).sum
      rw [List.drop_eq_nil_of_le (Nat.le_of_eq Array.length_toList)]
      rfl
    · show ((T.heap.toList.drop T.heap.size).map (·.slots.size)).sum ≤ 0
      rw [List.drop_eq_nil_of_le (Nat.le_of_eq Array.length_toList)]
      exact Nat.le_refl _
/-- 'throw new E()': new; dup; invokespecial; athrow -/
theorem vx_throw0 {cc : ByteArray} {pc : Nat} (hexec : p.tables.exec = Jvm.exec) (hb : c.code = cc) (hl : l.stackTraces = false) {own cls : String} {names : List String} {ik ic mc ms : Nat} {A : Nat → Prop}
    (hown : s.vm.findClass own = some m.cls) (hcls : Bundle.fit cls = true) (hnames : ∀ n ∈ names, Bundle.fit n = true)
    (hk : (Cond.classLink own ik cls).before args s = true) (hini : (Cond.initialized cls).before args s = true) (hat : ∀ w ∈ vx_at0 own ic cls names, w.before args s = true)
    (hgood : ∀ w ∈ Cond.classLink own ik cls :: Cond.initialized cls :: vx_at0 own ic cls names, vx_ot w = true)
    (hU : vx_Zq Bundle.tN "UNASSIGNED_STACK" Bundle.steD A s s.heap) (hN : vx_Zq Bundle.tN "SUPPRESSED_SENTINEL" Bundle.listD A s s.heap) (hS : va_S A s.heap H locs) (hsize : ls.size = c.maxLocals)
    (d0 : decode cc pc = .ok (.new ik, 3)) (d3 : decode cc (pc + 3) = .ok (.dup, 1)) (d4 : decode cc (pc + 4) = .ok (.invokespecial ic, 3)) (d7 : decode cc (pc + 7) = .ok (.athrow, 1))
    (hout : ∀ x ∈ c.exceptionTable.toList, covers x (pc + 7) = false)
    (hRframes : names.length + 3 < R.frames) (hRlocals : (rest.map fun v => v.category).sum + (13 * (names.length + 1) + 42) ≤ R.locals) (hRcells : cells + 1 ≤ R.cells) (hRslots : slots + 6 ≤ R.slots) (hlocks : meth.locks = false)
    (hx : ∀ t : State, s.vm.Alike t.vm → H.size ≤ t.heap.size → (∀ q : Nat, q < H.size → t.heap[q]? = H[q]?) → XC cls s t)
    (hf : ∀ z ∈ locs, free z.base) (hc : cells + 1 ≤ mc) (hs : slots + 6 ≤ ms) :
    W p l e R s m args below meth c H locs cells slots (vx_MQ below Qc XC args s mc ms free) (F0 m pc ls rest) := by
  intro T hT X
  have htr : e.platform.stackTraces = false := (show e.platform.stackTraces = l.stackTraces by rw [X.admits.platform]).trans hl
  have Y := vx_rebase X (R' := { frames := R.frames, locals := R.locals, cells := 1, slots := 6 }) (Nat.le_refl _) (Nat.le_refl _) hRcells hRslots
  obtain ⟨s', hA⟩ : ∃ z, z = (T.setVm s.vm).setFrames (.invoking m args :: below) := ⟨_, rfl⟩
  rw [← hA] at Y
  have hvm : s'.vm = s.vm := by rw [hA]; rfl
  have hhp : s'.heap = H := by rw [hA]; exact hT
  have hW0 : s.WarmedH s'.vm := by rw [hvm]; exact State.WarmedH.refl s
  have hat' : ∀ w ∈ vx_at0 own ic cls names, w.before args s' = true := fun w hw => vx_ot_at hW0 hvm.symm (hgood w (List.mem_cons_of_mem _ (List.mem_cons_of_mem _ hw))) (hat w hw)
  have hk' : (Cond.classLink own ik cls).before args s' = true := vx_ot_at hW0 hvm.symm (hgood _ List.mem_cons_self) hk
  have hini' : (Cond.initialized cls).before args s' = true := vx_ot_at hW0 hvm.symm (hgood _ (List.mem_cons_of_mem _ List.mem_cons_self)) hini
  have hU' : vx_Zq Bundle.tN "UNASSIGNED_STACK" Bundle.steD A s' s'.heap := by rw [hhp]; exact vx_Zq.moved hW0.alike (hU.kept hS.2.1)
  have hN' : vx_Zq Bundle.tN "SUPPRESSED_SENTINEL" Bundle.listD A s' s'.heap := by rw [hhp]; exact vx_Zq.moved hW0.alike (hN.kept hS.2.1)
  have h : ∀ w ∈ Bundle.ownAtoms0 own ic cls names, w.before args s' = true := vx_own hat' (vx_isRefq hU'.1) (vx_isRefq hN'.1) hU'.2.word hN'.2.word
  have hown' : s'.vm.findClass own = some m.cls := by rw [hvm]; exact hown
  have hins : (Cond.instantiable cls 6).before args s' = true := h _ (by simp [Bundle.ownAtoms0])
  obtain ⟨vm₁, cX, kX, hfX, hkX, -, -, X₁, st1⟩ := Y.newCold hexec (own := own) (C := cls) (index := ik) (n := 6) hown' hk' hins hini'
    (g := F0 m pc ls rest) rfl (by rw [hb]; exact d0) (Nat.le_refl _) (Nat.le_refl _)
  generalize hT1 : (T.setVm vm₁).pushCell { cls := cX, slots := kX.instanceTypes.map defaultValue, vm := .none } = T1 at X₁ st1
  have hcat : (Value.ref T.heap.size).category = 1 := rfl
  have hcellA : T1.heap[T.heap.size]? = some (freshCell cX kX) := by rw [← hT1]; exact State.heap_pushCell_size _ _
  have d3' : decode c.code (pc + 3) = .ok (.dup, 1) := by rw [hb]; exact d3
  obtain ⟨U, hsteps, hrun, hend, hW, hsame, ce, hce, hO⟩ := X₁.ctorThrow0 hexec htr (own := own) (cls := cls) (names := names) (ic := ic) hown' hcls hnames h (fun x hx => nomatch hx) hfX hkX hcellA (by rw [hhp, hT]; exact Nat.le_refl _)
    (g := { method := m, pc := pc + 4, locals := ls, stack := .ref T.heap.size :: .ref T.heap.size :: rest, locked := none }) rfl hsize rfl rfl (rest := rest) rfl
    (by rw [hb]; exact d4) (by rw [hb]; exact d7) hout hRframes (by simp only [List.map_cons, List.sum_cons, hcat]; omega) hlocks
  obtain ⟨f1, f2⟩ := vx_frame hsame
  rw [hhp] at f1 f2
  have hWs : s.WarmedH U.vm := State.WarmedH.trans hW0 hW
  have hcl : s.vm.findClass cls = some ce.cls := by
    have h9 := hO.cls
    rw [hvm] at h9
    exact h9
  have hall : s.sameButNew ({ U with vm := s.vm } : State) locs mc ms := by
    subst hA
    obtain ⟨e1, e2⟩ := hsame
    rw [State.setFrames_setFrames] at e1
    have h2 : (T.setVm s.vm).sameButNew ({ U with vm := s.vm } : State) [] (0 + 1) (0 + 6) := ⟨e1, e2⟩
    have h3 := X.same.trans h2
    rw [List.append_nil] at h3
    exact h3.mono hc hs
  refine ⟨U, ?_, .threw T.heap.size, hrun, hend, Or.inr ⟨T.heap.size, rfl, cls, ce, locs, hx U hWs.alike f1 (fun q hq => f2 q hq (fun z hz => nomatch hz)), hce, hO.vm, hcl, hWs, hall, hf⟩⟩
  refine st1 _ ?_
  show Steps p.tables e below (T1.setTop { method := m, pc := pc + 3, locals := ls, stack := .ref T.heap.size :: rest, locked := none }) _
  jvm_step X₁.here [X₁.here.top, hexec, d3', Value.category]
  exact hsteps
/-- 'throw new E("text")': new; dup; ldc; invokespecial; athrow -/
theorem vx_throwS {cc : ByteArray} {pc : Nat} (hexec : p.tables.exec = Jvm.exec) (hb : c.code = cc) (hl : l.stackTraces = false) {own cls text : String} {names : List String} {ik is ic mc ms sa : Nat} {A : Nat → Prop}
    (hown : s.vm.findClass own = some m.cls) (hcls : Bundle.fit cls = true) (hnames : ∀ n ∈ names, Bundle.fit n = true)
    (hk : (Cond.classLink own ik cls).before args s = true) (hini : (Cond.initialized cls).before args s = true) (hstr : vk_R own is text sa s) (hat : ∀ w ∈ vx_atS own ic cls names, w.before args s = true)
    (hgood : ∀ w ∈ Cond.classLink own ik cls :: Cond.initialized cls :: vx_atS own ic cls names, vx_ot w = true)
    (hU : vx_Zq Bundle.tN "UNASSIGNED_STACK" Bundle.steD A s s.heap) (hN : vx_Zq Bundle.tN "SUPPRESSED_SENTINEL" Bundle.listD A s s.heap) (hS : va_S A s.heap H locs) (hsize : ls.size = c.maxLocals)
    (d0 : decode cc pc = .ok (.new ik, 3)) (d3 : decode cc (pc + 3) = .ok (.dup, 1)) (d4 : decode cc (pc + 4) = .ok (.ldc is, 2)) (d6 : decode cc (pc + 6) = .ok (.invokespecial ic, 3)) (d9 : decode cc (pc + 9) = .ok (.athrow, 1))
    (hout : ∀ x ∈ c.exceptionTable.toList, covers x (pc + 9) = false)
    (hRframes : names.length + 3 < R.frames) (hRlocals : (rest.map fun v => v.category).sum + (13 * (names.length + 1) + 43) ≤ R.locals) (hRcells : cells + 1 ≤ R.cells) (hRslots : slots + 6 ≤ R.slots) (hlocks : meth.locks = false)
    (hx : ∀ t : State, s.vm.Alike t.vm → H.size ≤ t.heap.size → (∀ q : Nat, q < H.size → t.heap[q]? = H[q]?) → XC cls s t)
    (hf : ∀ z ∈ locs, free z.base) (hc : cells + 1 ≤ mc) (hs : slots + 6 ≤ ms) :
    W p l e R s m args below meth c H locs cells slots (vx_MQ below Qc XC args s mc ms free) (F0 m pc ls rest) := by
  intro T hT X
  have htr : e.platform.stackTraces = false := (show e.platform.stackTraces = l.stackTraces by rw [X.admits.platform]).trans hl
  have Y := vx_rebase X (R' := { frames := R.frames, locals := R.locals, cells := 1, slots := 6 }) (Nat.le_refl _) (Nat.le_refl _) hRcells hRslots
  obtain ⟨s', hA⟩ : ∃ z, z = (T.setVm s.vm).setFrames (.invoking m args :: below) := ⟨_, rfl⟩
  rw [← hA] at Y
  have hvm : s'.vm = s.vm := by rw [hA]; rfl
  have hhp : s'.heap = H := by rw [hA]; exact hT
  have hW0 : s.WarmedH s'.vm := by rw [hvm]; exact State.WarmedH.refl s
  have hat' : ∀ w ∈ vx_atS own ic cls names, w.before args s' = true := fun w hw => vx_ot_at hW0 hvm.symm (hgood w (List.mem_cons_of_mem _ (List.mem_cons_of_mem _ hw))) (hat w hw)
  have hk' : (Cond.classLink own ik cls).before args s' = true := vx_ot_at hW0 hvm.symm (hgood _ List.mem_cons_self) hk
  have hini' : (Cond.initialized cls).before args s' = true := vx_ot_at hW0 hvm.symm (hgood _ (List.mem_cons_of_mem _ List.mem_cons_self)) hini
  have hU' : vx_Zq Bundle.tN "UNASSIGNED_STACK" Bundle.steD A s' s'.heap := by rw [hhp]; exact vx_Zq.moved hW0.alike (hU.kept hS.2.1)
  have hN' : vx_Zq Bundle.tN "SUPPRESSED_SENTINEL" Bundle.listD A s' s'.heap := by rw [hhp]; exact vx_Zq.moved hW0.alike (hN.kept hS.2.1)
  have h : ∀ w ∈ Bundle.ownAtoms own ic cls names, w.before args s' = true := vx_own hat' (vx_isRefq hU'.1) (vx_isRefq hN'.1) hU'.2.word hN'.2.word
  have hown' : s'.vm.findClass own = some m.cls := by rw [hvm]; exact hown
  have hins : (Cond.instantiable cls 6).before args s' = true := h _ (by simp [Bundle.ownAtoms])
  obtain ⟨vm₁, cX, kX, hfX, hkX, -, -, X₁, st1⟩ := Y.newCold hexec (own := own) (C := cls) (index := ik) (n := 6) hown' hk' hins hini'
    (g := F0 m pc ls rest) rfl (by rw [hb]; exact d0) (Nat.le_refl _) (Nat.le_refl _)
  generalize hT1 : (T.setVm vm₁).pushCell { cls := cX, slots := kX.instanceTypes.map defaultValue, vm := .none } = T1 at X₁ st1
  have hcat : (Value.ref T.heap.size).category = 1 := rfl
  have hcellA : T1.heap[T.heap.size]? = some (freshCell cX kX) := by rw [← hT1]; exact State.heap_pushCell_size _ _
  have d3' : decode c.code (pc + 3) = .ok (.dup, 1) := by rw [hb]; exact d3
  have d4' : decode c.code (pc + 4) = .ok (.ldc is, 2) := by rw [hb]; exact d4
  have hstr' : vk_R own is text sa s' := vk_R.warm hW0 hstr
  obtain ⟨U, hsteps, hrun, hend, hW, hsame, ce, hce, hO⟩ := X₁.ctorThrowS hexec htr (own := own) (cls := cls) (names := names) (ic := ic) hown' hcls hnames h (fun x hx => nomatch hx) hfX hkX hcellA (by rw [hhp, hT]; exact Nat.le_refl _) (msg := .ref sa) rfl
    (g := { method := m, pc := pc + 6, locals := ls, stack := .ref sa :: .ref T.heap.size :: .ref T.heap.size :: rest, locked := none }) rfl hsize rfl rfl (rest := rest) rfl
    (by rw [hb]; exact d6) (by rw [hb]; exact d9) hout hRframes (by simp only [List.map_cons, List.sum_cons, hcat]; omega) hlocks
  obtain ⟨f1, f2⟩ := vx_frame hsame
  rw [hhp] at f1 f2
  have hWs : s.WarmedH U.vm := State.WarmedH.trans hW0 hW
  have hcl : s.vm.findClass cls = some ce.cls := by
    have h9 := hO.cls
    rw [hvm] at h9
    exact h9
  have hall : s.sameButNew ({ U with vm := s.vm } : State) locs mc ms := by
    subst hA
    obtain ⟨e1, e2⟩ := hsame
    rw [State.setFrames_setFrames] at e1
    have h2 : (T.setVm s.vm).sameButNew ({ U with vm := s.vm } : State) [] (0 + 1) (0 + 6) := ⟨e1, e2⟩
    have h3 := X.same.trans h2
    rw [List.append_nil] at h3
    exact h3.mono hc hs
  refine ⟨U, ?_, .threw T.heap.size, hrun, hend, Or.inr ⟨T.heap.size, rfl, cls, ce, locs, hx U hWs.alike f1 (fun q hq => f2 q hq (fun z hz => nomatch hz)), hce, hO.vm, hcl, hWs, hall, hf⟩⟩
  refine st1 _ ?_
  show Steps p.tables e below (T1.setTop { method := m, pc := pc + 3, locals := ls, stack := .ref T.heap.size :: rest, locked := none }) _
  jvm_step X₁.here [X₁.here.top, hexec, d3', Value.category]
  exact X₁.ldcString hexec (own := own) (text := text) (index := is) (a := sa) hown' hstr'.1 hstr'.2
    (g := { method := m, pc := pc + 4, locals := ls, stack := .ref T.heap.size :: .ref T.heap.size :: rest, locked := none }) rfl d4' _ hsteps
/-- 'throw new E("text")', the text by a wide index -/
theorem vx_throwSW {cc : ByteArray} {pc : Nat} (hexec : p.tables.exec = Jvm.exec) (hb : c.code = cc) (hl : l.stackTraces = false) {own cls text : String} {names : List String} {ik is ic mc ms sa : Nat} {A : Nat → Prop}
    (hown : s.vm.findClass own = some m.cls) (hcls : Bundle.fit cls = true) (hnames : ∀ n ∈ names, Bundle.fit n = true)
    (hk : (Cond.classLink own ik cls).before args s = true) (hini : (Cond.initialized cls).before args s = true) (hstr : vk_R own is text sa s) (hat : ∀ w ∈ vx_atS own ic cls names, w.before args s = true)
    (hgood : ∀ w ∈ Cond.classLink own ik cls :: Cond.initialized cls :: vx_atS own ic cls names, vx_ot w = true)
    (hU : vx_Zq Bundle.tN "UNASSIGNED_STACK" Bundle.steD A s s.heap) (hN : vx_Zq Bundle.tN "SUPPRESSED_SENTINEL" Bundle.listD A s s.heap) (hS : va_S A s.heap H locs) (hsize : ls.size = c.maxLocals)
    (d0 : decode cc pc = .ok (.new ik, 3)) (d3 : decode cc (pc + 3) = .ok (.dup, 1)) (d4 : decode cc (pc + 4) = .ok (.ldc_w is, 3)) (d7 : decode cc (pc + 7) = .ok (.invokespecial ic, 3)) (d10 : decode cc (pc + 10) = .ok (.athrow, 1))
    (hout : ∀ x ∈ c.exceptionTable.toList, covers x (pc + 10) = false)
    (hRframes : names.length + 3 < R.frames) (hRlocals : (rest.map fun v => v.category).sum + (13 * (names.length + 1) + 43) ≤ R.locals) (hRcells : cells + 1 ≤ R.cells) (hRslots : slots + 6 ≤ R.slots) (hlocks : meth.locks = false)
    (hx : ∀ t : State, s.vm.Alike t.vm → H.size ≤ t.heap.size → (∀ q : Nat, q < H.size → t.heap[q]? = H[q]?) → XC cls s t)
    (hf : ∀ z ∈ locs, free z.base) (hc : cells + 1 ≤ mc) (hs : slots + 6 ≤ ms) :
    W p l e R s m args below meth c H locs cells slots (vx_MQ below Qc XC args s mc ms free) (F0 m pc ls rest) := by
  intro T hT X
  have htr : e.platform.stackTraces = false := (show e.platform.stackTraces = l.stackTraces by rw [X.admits.platform]).trans hl
  have Y := vx_rebase X (R' := { frames := R.frames, locals := R.locals, cells := 1, slots := 6 }) (Nat.le_refl _) (Nat.le_refl _) hRcells hRslots
  obtain ⟨s', hA⟩ : ∃ z, z = (T.setVm s.vm).setFrames (.invoking m args :: below) := ⟨_, rfl⟩
  rw [← hA] at Y
  have hvm : s'.vm = s.vm := by rw [hA]; rfl
  have hhp : s'.heap = H := by rw [hA]; exact hT
  have hW0 : s.WarmedH s'.vm := by rw [hvm]; exact State.WarmedH.refl s
  have hat' : ∀ w ∈ vx_atS own ic cls names, w.before args s' = true := fun w hw => vx_ot_at hW0 hvm.symm (hgood w (List.mem_cons_of_mem _ (List.mem_cons_of_mem _ hw))) (hat w hw)
  have hk' : (Cond.classLink own ik cls).before args s' = true := vx_ot_at hW0 hvm.symm (hgood _ List.mem_cons_self) hk
  have hini' : (Cond.initialized cls).before args s' = true := vx_ot_at hW0 hvm.symm (hgood _ (List.mem_cons_of_mem _ List.mem_cons_self)) hini
  have hU' : vx_Zq Bundle.tN "UNASSIGNED_STACK" Bundle.steD A s' s'.heap := by rw [hhp]; exact vx_Zq.moved hW0.alike (hU.kept hS.2.1)
  have hN' : vx_Zq Bundle.tN "SUPPRESSED_SENTINEL" Bundle.listD A s' s'.heap := by rw [hhp]; exact vx_Zq.moved hW0.alike (hN.kept hS.2.1)
  have h : ∀ w ∈ Bundle.ownAtoms own ic cls names, w.before args s' = true := vx_own hat' (vx_isRefq hU'.1) (vx_isRefq hN'.1) hU'.2.word hN'.2.word
  have hown' : s'.vm.findClass own = some m.cls := by rw [hvm]; exact hown
  have hins : (Cond.instantiable cls 6).before args s' = true := h _ (by simp [Bundle.ownAtoms])
  obtain ⟨vm₁, cX, kX, hfX, hkX, -, -, X₁, st1⟩ := Y.newCold hexec (own := own) (C := cls) (index := ik) (n := 6) hown' hk' hins hini'
    (g := F0 m pc ls rest) rfl (by rw [hb]; exact d0) (Nat.le_refl _) (Nat.le_refl _)
  generalize hT1 : (T.setVm vm₁).pushCell { cls := cX, slots := kX.instanceTypes.map defaultValue, vm := .none } = T1 at X₁ st1
  have hcat : (Value.ref T.heap.size).category = 1 := rfl
  have hcellA : T1.heap[T.heap.size]? = some (freshCell cX kX) := by rw [← hT1]; exact State.heap_pushCell_size _ _
  have d3' : decode c.code (pc + 3) = .ok (.dup, 1) := by rw [hb]; exact d3
  have d4' : decode c.code (pc + 4) = .ok (.ldc_w is, 3) := by rw [hb]; exact d4
  have hstr' : vk_R own is text sa s' := vk_R.warm hW0 hstr
  obtain ⟨U, hsteps, hrun, hend, hW, hsame, ce, hce, hO⟩ := X₁.ctorThrowS hexec htr (own := own) (cls := cls) (names := names) (ic := ic) hown' hcls hnames h (fun x hx => nomatch hx) hfX hkX hcellA (by rw [hhp, hT]; exact Nat.le_refl _) (msg := .ref sa) rfl
    (g := { method := m, pc := pc + 7, locals := ls, stack := .ref sa :: .ref T.heap.size :: .ref T.heap.size :: rest, locked := none }) rfl hsize rfl rfl (rest := rest) rfl
    (by rw [hb]; exact d7) (by rw [hb]; exact d10) hout hRframes (by simp only [List.map_cons, List.sum_cons, hcat]; omega) hlocks
  obtain ⟨f1, f2⟩ := vx_frame hsame
  rw [hhp] at f1 f2
  have hWs : s.WarmedH U.vm := State.WarmedH.trans hW0 hW
  have hcl : s.vm.findClass cls = some ce.cls := by
    have h9 := hO.cls
    rw [hvm] at h9
    exact h9
  have hall : s.sameButNew ({ U with vm := s.vm } : State) locs mc ms := by
    subst hA
    obtain ⟨e1, e2⟩ := hsame
    rw [State.setFrames_setFrames] at e1
    have h2 : (T.setVm s.vm).sameButNew ({ U with vm := s.vm } : State) [] (0 + 1) (0 + 6) := ⟨e1, e2⟩
    have h3 := X.same.trans h2
    rw [List.append_nil] at h3
    exact h3.mono hc hs
  refine ⟨U, ?_, .threw T.heap.size, hrun, hend, Or.inr ⟨T.heap.size, rfl, cls, ce, locs, hx U hWs.alike f1 (fun q hq => f2 q hq (fun z hz => nomatch hz)), hce, hO.vm, hcl, hWs, hall, hf⟩⟩
  refine st1 _ ?_
  show Steps p.tables e below (T1.setTop { method := m, pc := pc + 3, locals := ls, stack := .ref T.heap.size :: rest, locked := none }) _
  jvm_step X₁.here [X₁.here.top, hexec, d3', Value.category]
  exact X₁.ldcStringW hexec (own := own) (text := text) (index := is) (a := sa) hown' hstr'.1 hstr'.2
    (g := { method := m, pc := pc + 4, locals := ls, stack := .ref T.heap.size :: .ref T.heap.size :: rest, locked := none }) rfl d4' _ hsteps
end Ends
section Bodies
variable {l : Launch}
theorem vx_ofW {y : MethodName} {ws ws' : List Cond} {rm : Room} {Pc : Array Value → State → Prop} {Qc : Array Value → State → Outcome → State → Prop} {XC : String → State → State → Prop} {mc ms : Nat} {free : Addr → Prop} {cc : ByteArray} {maxL : Nat} {ret : Option FieldType}
    (hy : plainName y.cls = true) (hw : ws = Cond.code y cc maxL ret :: ws')
    (body : ∀ p e s m args below meth c s₁, BodyLoose p l y (headSpec ws rm) cc maxL ret e s m args below meth c s₁ → c.maxLocals = maxL → (∀ x ∈ c.exceptionTable.toList, False) → Pc args s →
      W p l e (headSpec ws rm).room s m args below meth c s.heap [] 0 0 (vx_MQ below Qc XC args s mc ms free) (entryFrame m args maxL)) : vx_Met l y ws rm Pc Qc XC mc ms free := by
  refine MetFree.of_bodyS (code := cc) (maxLocals := maxL) (ret := ret) hy ?_ ?_
  · intro args s m h hn
    obtain ⟨meth, c, h1, h2, h3, h4, h5, h6, -, -⟩ := Cond.code_spec hn (atoms_spec (ws := ws) h _ (by rw [hw]; exact List.mem_cons_self))
    exact ⟨meth, c, h1, h2, h3, h4, h5, h6⟩
  · intro p e s m args below meth c s₁ B hml hP _
    have hh0 : s₁.heap = s.heap := by rw [B.state]; rfl
    have ht : ∀ x ∈ c.exceptionTable.toList, False := by
      obtain ⟨meth9, c9, h1, h2, -, -, -, -, h7, -⟩ := Cond.code_spec B.named (atoms_spec (ws := ws) B.pre _ (by rw [hw]; exact List.mem_cons_self))
      cases Option.some.inj (h1.symm.trans B.method)
      cases Option.some.inj (h2.symm.trans (Stand.of_body B).code)
      intro x hx
      rw [Array.isEmpty_iff.mp h7] at hx
      cases hx
    obtain ⟨t, a1, o, b1, b2, b3⟩ := body p e s m args below meth c s₁ B hml ht hP s₁ hh0 (Stand.of_body B)
    exact ⟨t, o, a1, b1, b2, b3⟩
/-- the table of a body with handlers -/
theorem vx_table {p : Program} {x y : MethodName} {S : Spec} {cc bytes : ByteArray} {maxL maxL' : Nat} {ret ret' : Option FieldType} {e : Env} {s s₁ : State} {m : MethodId} {args : Array Value} {below : List Frame} {meth : Method} {c : Code} {hh : List (Nat × Nat × Nat × Nat)}
    (B : BodyLoose p l y S cc maxL ret e s m args below meth c s₁) (h : (Cond.codeWith y bytes maxL' ret' hh).before args s = true) : c.exceptionTable.toList = tableOf hh := by
  obtain ⟨m9, meth9, c9, hn9, h1, h2, -, -, h6, -⟩ := Cond.codeWith_spec h
  cases Option.some.inj (hn9.symm.trans B.named)
  cases Option.some.inj (h1.symm.trans B.method)
  cases Option.some.inj (h2.symm.trans (Stand.of_body B).code)
  rw [← h6, table_eq]
end Bodies
end VXA
/-! ===== END ===== -/
/-! ===== BEGIN a static call of a method with an exception table ===== -/
section VXS
variable {p : Program} {l : Launch} {e : Env} {R : Room} {s : State} {m : MethodId} {args : Array Value} {below : List Frame} {meth : Method} {c : Code} {T : State} {H : Heap} {locs : List Loc} {cells slots : Nat}
abbrev vx_CSW (R : Room) (s : State) (args : Array Value) (own : String) (index : Nat) (y : MethodName) (bytes : ByteArray) (maxL : Nat) (ret : Option FieldType) (hh : List (Nat × Nat × Nat × Nat)) (ws : List Cond) (rm : Room) (mc ms n : Nat) : Prop :=
  (rm.cells = mc ∧ rm.slots = ms ∧ rm.frames + 1 ≤ R.frames ∧ 8 + (maxL + 11) + rm.locals ≤ R.locals ∧ (∀ w ∈ ws, ∀ (a' : Array Value) (U : State), s.WarmedH U.vm → w.before a' U = true) ∧ Cond.codeWith y bytes maxL ret hh ∈ ws) ∧
  (Cond.codeWith y bytes maxL ret hh).before args s = true ∧ (Cond.initialized y.cls).before args s = true ∧ (y.cls ≠ "java/lang/invoke/MethodHandle" ∧ y.cls ≠ "java/lang/invoke/VarHandle") ∧
  (∀ sig, parseMethodDescriptor y.desc = some sig → n = sig.parameters.length) ∧ (Cond.methodLink own index y).before args s = true ∧ (Cond.static y).before args s = true
theorem vx_cwSW {own : String} {index maxL mc ms : Nat} {y : MethodName} {bytes : ByteArray} {ret : Option FieldType} {hh : List (Nat × Nat × Nat × Nat)} {Ts ws ws' : List Cond} {rm : Room} (n : Nat) (ht : ∀ w ∈ Ts, w.before args s = true) (hT : GoodIn Ts (va_wsS own index y ws)) (hw : ws = Cond.codeWith y bytes maxL ret hh :: ws') (hrc : rm.cells = mc) (hrs : rm.slots = ms)
    (hd : y.cls ≠ "java/lang/invoke/MethodHandle" ∧ y.cls ≠ "java/lang/invoke/VarHandle" ∧ (parseMethodDescriptor y.desc).map (fun d => d.parameters.length) = some n) (hR : rm.frames + 1 ≤ R.frames ∧ 8 + (maxL + 11) + rm.locals ≤ R.locals) :
    vx_CSW R s args own index y bytes maxL ret hh ws rm mc ms n := by
  have ok : ∀ w ∈ va_wsS own index y ws, w.before args s = true := fun w h => ht w (hT w h).1
  have hG : GoodIn Ts ws := fun w h => hT w (by unfold va_wsS; exact List.mem_append_right _ h)
  have hc : Cond.codeWith y bytes maxL ret hh ∈ ws := by rw [hw]; exact List.mem_cons_self
  refine ⟨⟨hrc, hrs, hR.1, hR.2, pay_in ht hG, hc⟩, ht _ (hG _ hc).1, ok _ (by simp [va_wsS]), ⟨hd.1, hd.2.1⟩, fun sig h => ?_, ok _ (by simp [va_wsS]), ok _ (by simp [va_wsS])⟩
  have h2 := hd.2.2
  rw [h] at h2
  exact (Option.some.inj h2).symm
theorem vx_callSW (X : Stand p l e R s m args below meth c T locs cells slots) (hexec : p.tables.exec = Jvm.exec) {own : String} {index : Nat} {y : MethodName} {bytes : ByteArray} {maxL : Nat} {ret : Option FieldType} {hh : List (Nat × Nat × Nat × Nat)}
    (hown : s.vm.findClass own = some m.cls) (hlink : (Cond.methodLink own index y).before args s = true) (hstat : (Cond.static y).before args s = true) (hinit : (Cond.initialized y.cls).before args s = true)
    (hcode : (Cond.codeWith y bytes maxL ret hh).before args s = true) (hy : y.cls ≠ "java/lang/invoke/MethodHandle" ∧ y.cls ≠ "java/lang/invoke/VarHandle")
    {W9 : Nat} {Pre : Pt → Array Value → Prop} {Post : Pt → Array Value → Option Value → Pt → Prop} (hK : Back l R p e below s args y 3 W9 Pre Post)
    {g : JFrame} (hg : g.method = m) (hsize : g.locals.size = c.maxLocals) {argsL rest : List Value} (hlen : ∀ sig, parseMethodDescriptor y.desc = some sig → argsL.length = sig.parameters.length)
    (hstack : g.stack = argsL.reverse ++ rest) (hW : 2 * g.monitorRoom + (rest.map fun v => v.category).sum ≤ W9) (hdg : decode c.code g.pc = .ok (.invokestatic index, 3))
    (hpre : ∀ vm₁, s.WarmedH vm₁ → Pre ⟨T.setVm vm₁, locs, cells, slots⟩ argsL.toArray) :
    ∃ (v : Option Value) (vm₁ : Vm) (B : Pt), s.WarmedH vm₁ ∧ Stand p l e R s m args below meth c B.U B.locs B.cells B.slots ∧ Post ⟨T.setVm vm₁, locs, cells, slots⟩ argsL.toArray v B ∧
      ∀ target, Steps p.tables e below (B.U.setTop { g with pc := g.pc + 3, stack := v.toList ++ rest }) target → Steps p.tables e below (T.setTop g) target := by
  obtain ⟨mk, methM, cM, hnamed, hmethM, -, -, -, -, -, -, hsigM⟩ := Cond.codeWith_spec hcode
  have hstatic : methM.isStatic = true := Cond.static_spec hnamed hmethM hstat
  obtain ⟨kP, hkP, -⟩ := className_of_methodNamed hnamed
  have hinitP : kP.init = .initialized := Cond.initialized_spec (findClass_of_methodNamed hnamed) hkP hinit
  obtain ⟨vm₁, X₁, hstep₁⟩ := X.invokestatic hexec hown hlink hnamed hmethM hstatic hkP hinitP hy (g := g) hg (argsL := argsL) (rest := rest) (hlen _ hsigM) hstack hdg
  obtain ⟨v, B, X', hpost, hsteps⟩ := hK m meth c ⟨T.setVm vm₁, locs, cells, slots⟩ { g with stack := rest } (.invokestatic index) mk argsL.toArray X₁ hg hsize hdg hW (X₁.named hnamed) (hpre vm₁ X₁.warmed)
  exact ⟨v, vm₁, B, X₁.warmed, X', hpost, fun target h => hstep₁ _ fun acts => by rw [doInvoke_state]; exact hsteps.trans h⟩
theorem vx_runSW {y : MethodName} {bytes cc : ByteArray} {maxL nL mc ms n index : Nat} {ret : Option FieldType} {hh : List (Nat × Nat × Nat × Nat)} {ws : List Cond} {rm : Room} {Pc : Array Value → State → Prop} {Qc : Array Value → State → Outcome → State → Prop} {free : Addr → Prop} {Ts : List Cond} {own : String} {As rest : List Value} {g : JFrame}
    (S : CallFix p m c cc nL s args Ts own) (hM : Met l y ws rm Pc Qc mc ms free) (cw : vx_CSW R s args own index y bytes maxL ret hh ws rm mc ms n) (hp : PreS s H Pc As)
    (hg : g.method = m) (hn : As.length = n) (hsize : g.locals.size = nL) (hstack : g.stack = As.reverse ++ rest) (hW : 2 * g.monitorRoom + (rest.map fun v => v.category).sum ≤ 8) (hdg : decode cc g.pc = .ok (.invokestatic index, 3)) (hf : cells + mc ≤ R.cells ∧ slots + ms ≤ R.slots) :
    va_Run p l e R s m args below meth c H locs cells slots mc ms g rest (Qc As.toArray) (free) := by
  obtain ⟨⟨hrc, hrs, hfr, hlo, hws, hcw⟩, hcode, hini, hy, hlen, hl, hstt⟩ := cw
  have hK : Back l R p e below s args y 3 8 (PreOf R mc ms Pc) (PostOf Qc mc ms free) := va_backW (hh := hh) (bytes := bytes) (maxL := maxL) (ret := ret) hM hp.1 hrc hrs hfr hlo hws hcw (fun a' U hW => word_at hW (Or.inl (by first | rfl | simp [Cond.onTables, Cond.keeps, Cond.steady])) hini)
  obtain ⟨hx, hb, hml, ho, -⟩ := S
  intro T hT X
  obtain ⟨v, vm₁, ⟨U', l2, c2, s2⟩, hW₁, X', ⟨g', mk, t, L, e1, e2, hq, h1, hL, h2, h3⟩, st⟩ := vx_callSW X hx (hh := hh) (bytes := bytes) (maxL := maxL) (ret := ret) ho hl hstt hini hcode hy hK hg (hsize.trans hml.symm) (argsL := As) (rest := rest) (fun sig h => hn.trans (hlen sig h)) hstack hW (by rw [hb]; exact hdg)
    (fun vm₁ hW₁ => ⟨hf.1, hf.2, hp.2 (T.setVm vm₁) hT hW₁⟩)
  dsimp only [Pt.U, Pt.locs, Pt.cells, Pt.slots] at X' e1 e2 h1 h2 h3 st
  subst h1; subst h2; subst h3
  exact ⟨v, (T.setVm vm₁).calling g' mk As.toArray, t, U', L, hT, X', hL, e1, e2, hq, st⟩
/-- not caught here, past rows that name other classes: it goes on to the caller -/
theorem vx_outP {p : Program} {l : Launch} {e : Env} {R : Room} {s : State} {m : MethodId} {args : Array Value} {below : List Frame} {meth : Method} {c : Code} {H : Heap} {locs : List Loc} {cells slots : Nat} {free : Addr → Prop} {ls : Array Slot} {rest : List Value} {Qc : Array Value → State → Outcome → State → Prop} {XC : String → State → State → Prop}
    {pc : Nat} {own E : String} {ce : Cell} {q : Addr} {mc ms : Nat} (hown : s.vm.findClass own = some m.cls) (hlocks : meth.locks = false)
    (hpass : ∀ z ∈ c.exceptionTable.toList, covers z pc = false ∨ (z.catchType ≠ 0 ∧ ∃ nm : String, (Cond.classLink own z.catchType nm).before args s = true ∧ va_Nc E nm s)) (hcell : H[q]? = some ce) (hv : ce.vm = .none) (hcl : s.vm.findClass E = some ce.cls)
    (hx : ∀ t : State, t.heap = H → s.vm.Alike t.vm → XC E s t) (hf : ∀ z ∈ locs, free z.base) (hc : cells ≤ mc) (hs : slots ≤ ms) :
    vx_W p l e R s m args below meth c H locs cells slots (vx_MQ below Qc XC args s mc ms free) (F0 m pc ls rest) q := by
  intro T hT X
  have hpl : e.platform.magicAccessors = ({} : Platform).magicAccessors := by rw [X.admits.platform]
  obtain ⟨vm', hW', X', st⟩ := X.outThrough hlocks q (g := F0 m pc ls rest) rfl rfl rfl (cell := ce) (by rw [hT]; exact hcell) (by rw [hv]; rfl)
    (by obtain ⟨k9, h9, -⟩ := Vm.findClass_spec hcl; exact ⟨k9, h9⟩) (fun z hz => by
      rcases hpass z hz with h | ⟨hz0, nm, hl1, hn1⟩
      · exact Or.inl h
      · obtain ⟨c6, hc6, hcl6⟩ := Cond.classLink_spec hown hl1 e.platform hpl
        obtain ⟨a8, b8, h1, h2, h3⟩ := hn1
        cases Option.some.inj (h1.symm.trans hcl)
        cases Option.some.inj (h2.symm.trans hc6)
        exact Or.inr ⟨hz0, _, hcl6, h3⟩)
  obtain ⟨g₀, hfr⟩ := X'.frames_eq
  have hcell9 : ((T.setVm vm').setFrames (.throwing q :: below)).heap[q]? = some ce := by
    show T.heap[q]? = some ce
    rw [hT]; exact hcell
  have hend : Ended ((T.setVm vm').setFrames (.throwing q :: below)) below (.threw q) := State.frames_setFrames _ (State.cur_lt_of_frames hfr)
  refine ⟨(T.setVm vm').setFrames (.throwing q :: below), ?_, .threw q, X'.here.running, hend, Or.inr ⟨q, rfl, E, ce, locs, hx _ hT (X'.ends _).1.alike, hcell9, hv, hcl, (X'.ends _).1, (X'.ends _).2.mono hc hs, hf⟩⟩
  rw [X.pushThrowing_eq]
  exact st
/-- a thing of a world lies in the heap -/
theorem vx_lt {D : va_G} {cl : List vw_C} {ws : va_W} {H1 : Heap} (h : va_P D cl ws H1) {k : Nat} {q : Nat × va_E} (hk : ws[k]? = some q) : q.1 < H1.size := (h k q hk).lt
end VXS
/-! ===== END ===== -/
/-! ===== BEGIN methods with a table of their own: called by a name, returning or throwing ===== -/
section VXH
/-! vx_backW, vx_callVX, vx_callSX, vx_callVW, vx_runVW, vx_runVX, vx_runSX, vx_ofWH follow the same proofs as their sisters above (Free/Laws.lean, Shelf42/LK1.lean); vx_outP calls Shelf42/NT130.lean (outThrough). -/
section
variable {l : Launch} {R : Room} {p : Program} {e : Env} {below : List Frame} {s : State} {sargs : Array Value} {y : MethodName} {len W9 : Nat}
theorem vx_backW {ws : List Cond} {rm : Room} {Pc : Array Value → State → Prop} {Qc : Array Value → State → Outcome → State → Prop} {XC : String → State → State → Prop} {mc ms : Nat} {free : Addr → Prop} {bytes : ByteArray} {maxL : Nat} {ret : Option FieldType} {hh : List (Nat × Nat × Nat × Nat)}
    (hM : vx_Met l y ws rm Pc Qc XC mc ms free) (hblind : FrameBlind Pc) (hrc : rm.cells = mc) (hrs : rm.slots = ms)
    (hframes : rm.frames + 1 ≤ R.frames) (hlocals : W9 + (maxL + 11) + rm.locals ≤ R.locals)
    (hws : ∀ w ∈ ws, ∀ a' U, s.WarmedH U.vm → w.before a' U = true) (hcode : Cond.codeWith y bytes maxL ret hh ∈ ws) (hinit : ∀ a' U, s.WarmedH U.vm → (Cond.initialized y.cls).before a' U = true) :
    vx_Back l R p e below s sargs y len W9 (PreOf R mc ms Pc) (PostOf Qc mc ms free) (vx_Post XC mc ms free) := by
  intro m meth c A g ig mk a X hg hsize hdg hW hn hp
  have h1 : (headSpec ws rm).pre.before a A.U = true := atoms_intro fun w hw => hws w hw _ _ X.warmed
  have h2 : (Cond.codeWith y bytes maxL ret hh).before a A.U = true := hws _ hcode _ _ X.warmed
  have h3 : (Cond.initialized y.cls).before a A.U = true := hinit _ _ X.warmed
  have h4 : A.cells + (headSpec ws rm).room.cells ≤ R.cells := by rw [show (headSpec ws rm).room.cells = mc from hrc]; exact hp.1
  have h5 : A.slots + (headSpec ws rm).room.slots ≤ R.slots := by rw [show (headSpec ws rm).room.slots = ms from hrs]; exact hp.2.1
  have hPc : Pc a (A.U.calling g mk a) := hblind _ _ _ _ hp.2.2
  obtain ⟨U, Ls, c0, s0⟩ := A
  dsimp only [Pt.U, Pt.locs, Pt.cells, Pt.slots] at h1 h2 h3 h4 h5 X hn hPc ⊢
  obtain ⟨m9, methY, cY, hn9, hmY, hcY, -, hlY, -⟩ := Cond.codeWith_spec h2
  cases Option.some.inj (hn9.symm.trans hn)
  obtain ⟨kY, hkY, -⟩ := className_of_methodNamed hn
  have hinitY : kY.init = .initialized := Cond.initialized_spec (findClass_of_methodNamed hn) hkY h3
  have h : At U g.method c below := by rw [hg]; exact X.here
  have hlocals9 : W9 + (maxL + 11) + (headSpec ws rm).room.locals ≤ R.locals := hlocals
  have happ : (headSpec ws rm).appliesLoose y e.platform (U.calling g mk a) = true :=
    Spec.appliesLoose_calling (g := g) h hdg hn hkY hinitY
      (X.room_calling (g := g) (R' := (headSpec ws rm).room) hsize hmY hcY hframes (by rw [hlY]; omega) h4 h5) h1
  obtain ⟨mid, hmid⟩ := h.above
  have hfr : (U.setTop g).frames = (.java g :: mid) ++ below := by rw [State.frames_setTop' g h.top, hmid]; rfl
  obtain ⟨o, s₂, hsteps, -, hend, hq⟩ := Steps.callFree hM p X.admits X.cas X.clock (acts := []) hfr happ hPc trivial
  have hq' : vx_Q Qc XC mc ms free a (U.calling g mk a) o s₂ := hq
  rw [State.frames_setTop' g h.top] at hend
  obtain ⟨g₀, hg0⟩ := Option.isSome_iff_exists.mp h.top
  obtain ⟨r, hr⟩ := State.topJava?_eq_some.mp hg0
  have hr' : (({ U with heap := s₂.heap, slotsUsed := s₂.slotsUsed } : State).setVm s₂.vm).frames = .java g₀ :: r := hr
  rcases hq' with ⟨hqc, L, hfe, hL⟩ | ⟨q, rfl, E, ce, L, hx, hce, hcv, hcl, hW₂, hsm, hL⟩
  · obtain ⟨⟨v, rfl⟩, hW₂, e2, q2, q3, q4, q5, q6⟩ := id hfe
    have e3 : s₂ = ({ (U.calling g mk a).setFrames s₂.frames with heap := s₂.heap, slotsUsed := s₂.slotsUsed } : State).setVm s₂.vm := by
      have : s₂ = ({ s₂ with vm := (U.calling g mk a).vm } : State).setVm s₂.vm := rfl
      rw [e2] at this
      exact this
    obtain ⟨c₂, i₂, len₂, hc₂, hd₂, hf₂⟩ := hend
    have hW' : U.WarmedH s₂.vm := hW₂
    have hcc : c₂ = c := by
      have h1 : s₂.code? g.method = U.code? g.method := by
        rw [State.code?_eq, State.code?_eq, hW'.alike.method?]
      exact Option.some.inj (hc₂.symm.trans (h1.trans h.code))
    subst hcc
    have hlen : len₂ = len := by rw [hdg] at hd₂; cases hd₂; rfl
    subst hlen
    have hs₂ : s₂ = (({ U with heap := s₂.heap, slotsUsed := s₂.slotsUsed } : State).setVm s₂.vm).setTop { g with pc := g.pc + len₂, stack := v.toList ++ g.stack } := by
      refine e3.trans ?_
      rw [hf₂, State.calling_eq h.top, State.setFrames_setFrames, State.setTop_of_frames _ hr', hr]
      rfl
    have hsame : U.sameButNew ({ U with heap := s₂.heap, slotsUsed := s₂.slotsUsed } : State) L mc ms := by
      refine ⟨?_, q2, q3, q4, q5, q6⟩
      obtain ⟨t, ht, -⟩ := State.frames_cons hr
      show ({ U with heap := s₂.heap, slotsUsed := s₂.slotsUsed } : State) = { U.setFrames U.frames with heap := s₂.heap, slotsUsed := s₂.slotsUsed }
      rw [State.setFrames_self ht]
    subst hg
    refine Or.inl ⟨v, ⟨(({ U with heap := s₂.heap, slotsUsed := s₂.slotsUsed } : State).setVm s₂.vm), Ls ++ L, c0 + mc, s0 + ms⟩,
      ⟨X.admits, X.cas, X.clock, X.frames, X.room, X.hears, X.method, X.code, (X.here.setHeapUsed s₂.heap s₂.slotsUsed).setVm hW'.alike, X.tail, State.WarmedH.trans X.warmed hW', X.limits, X.bytes, X.same.trans (hsame.setVm s.vm)⟩,
      ⟨g, mk, s₂, L, rfl, rfl, hqc, rfl, hL, rfl, rfl⟩, ?_⟩
    show Steps p.tables e below _ ((({ U with heap := s₂.heap, slotsUsed := s₂.slotsUsed } : State).setVm s₂.vm).setTop { g with pc := g.pc + len₂, stack := v.toList ++ g.stack })
    rw [← hs₂]
    exact hsteps
  · obtain ⟨e2, q2, q3, q4, q5, q6⟩ := id hsm
    have e3 : s₂ = ({ (U.calling g mk a).setFrames s₂.frames with heap := s₂.heap, slotsUsed := s₂.slotsUsed } : State).setVm s₂.vm := by
      have : s₂ = ({ s₂ with vm := (U.calling g mk a).vm } : State).setVm s₂.vm := rfl
      rw [e2] at this
      exact this
    have hf₂ : s₂.frames = .throwing q :: .java g :: U.frames.tail := hend
    have hW' : U.WarmedH s₂.vm := hW₂
    have hs₂ : s₂ = ((({ U with heap := s₂.heap, slotsUsed := s₂.slotsUsed } : State).setVm s₂.vm).setTop g).pushFrame (.throwing q) := by
      refine e3.trans ?_
      rw [hf₂, State.calling_eq h.top, State.setFrames_setFrames, State.pushFrame, State.frames_setTop _ hr', State.setTop_of_frames _ hr', State.setFrames_setFrames, hr]
      rfl
    have hsame : U.sameButNew ({ U with heap := s₂.heap, slotsUsed := s₂.slotsUsed } : State) L mc ms := by
      refine ⟨?_, q2, q3, q4, q5, q6⟩
      obtain ⟨t, ht, -⟩ := State.frames_cons hr
      show ({ U with heap := s₂.heap, slotsUsed := s₂.slotsUsed } : State) = { U.setFrames U.frames with heap := s₂.heap, slotsUsed := s₂.slotsUsed }
      rw [State.setFrames_self ht]
    subst hg
    refine Or.inr ⟨q, ⟨(({ U with heap := s₂.heap, slotsUsed := s₂.slotsUsed } : State).setVm s₂.vm), Ls ++ L, c0 + mc, s0 + ms⟩,
      ⟨X.admits, X.cas, X.clock, X.frames, X.room, X.hears, X.method, X.code, (X.here.setHeapUsed s₂.heap s₂.slotsUsed).setVm hW'.alike, X.tail, State.WarmedH.trans X.warmed hW', X.limits, X.bytes, X.same.trans (hsame.setVm s.vm)⟩,
      ⟨g, mk, s₂, L, E, ce, rfl, rfl, hx, hce, hcv, hcl, rfl, hL, rfl, rfl⟩, ?_⟩
    show Steps p.tables e below _ (((({ U with heap := s₂.heap, slotsUsed := s₂.slotsUsed } : State).setVm s₂.vm).setTop g).pushFrame (.throwing q))
    rw [← hs₂]
    exact hsteps
end
variable {p : Program} {l : Launch} {e : Env} {R : Room} {s : State} {m : MethodId} {args : Array Value} {below : List Frame} {meth : Method} {c : Code} {T : State} {H : Heap} {locs : List Loc} {cells slots : Nat}
theorem vx_callVX (X : Stand p l e R s m args below meth c T locs cells slots) (hexec : p.tables.exec = Jvm.exec) {own C : String} {index : Nat} {y : MethodName} {bytes : ByteArray} {maxL : Nat} {ret : Option FieldType} {hh : List (Nat × Nat × Nat × Nat)}
    (hown : s.vm.findClass own = some m.cls) (hlink : (Cond.methodLink own index y).before args s = true) (hinst : (Cond.instanceMethod y).before args s = true) (hsel : (Cond.selects C y y).before args s = true)
    (hcode : (Cond.codeWith y bytes maxL ret hh).before args s = true) (hy : y.cls ≠ "java/lang/invoke/MethodHandle" ∧ y.cls ≠ "java/lang/invoke/VarHandle")
    {W9 : Nat} {Pre : Pt → Array Value → Prop} {Post : Pt → Array Value → Option Value → Pt → Prop} {PostX : Pt → Array Value → Addr → Pt → Prop} (hK : vx_Back l R p e below s args y 3 W9 Pre Post PostX)
    {b : Addr} {cellB : Cell} (hcell : T.heap[b]? = some cellB) (hobj : cellB.vm.isStatics = false) (hcls : s.vm.findClass C = some cellB.cls)
    {g : JFrame} (hg : g.method = m) (hsize : g.locals.size = c.maxLocals) {argsL rest : List Value} (hlen : ∀ sig, parseMethodDescriptor y.desc = some sig → argsL.length = sig.parameters.length)
    (hstack : g.stack = argsL.reverse ++ .ref b :: rest) (hW : 2 * g.monitorRoom + (rest.map fun v => v.category).sum ≤ W9) (hdg : decode c.code g.pc = .ok (.invokevirtual index, 3))
    (hpre : ∀ vm₁, s.WarmedH vm₁ → Pre ⟨T.setVm vm₁, locs, cells, slots⟩ (Value.ref b :: argsL).toArray) :
    (∃ (v : Option Value) (vm₁ : Vm) (B : Pt), s.WarmedH vm₁ ∧ Stand p l e R s m args below meth c B.U B.locs B.cells B.slots ∧ Post ⟨T.setVm vm₁, locs, cells, slots⟩ (Value.ref b :: argsL).toArray v B ∧
      ∀ target, Steps p.tables e below (B.U.setTop { g with pc := g.pc + 3, stack := v.toList ++ rest }) target → Steps p.tables e below (T.setTop g) target) ∨
    (∃ (q : Addr) (vm₁ : Vm) (B : Pt), s.WarmedH vm₁ ∧ Stand p l e R s m args below meth c B.U B.locs B.cells B.slots ∧ PostX ⟨T.setVm vm₁, locs, cells, slots⟩ (Value.ref b :: argsL).toArray q B ∧
      Steps p.tables e below (T.setTop g) ((B.U.setTop { g with stack := rest }).pushFrame (.throwing q))) := by
  obtain ⟨mk, methM, hnamed, hmethM, hstM, habM⟩ := Cond.instanceMethod_spec hinst
  obtain ⟨m8, methM', cM, hn8, hmethM', -, -, -, -, -, -, hsigM⟩ := Cond.codeWith_spec hcode
  cases Option.some.inj (hn8.symm.trans hnamed)
  cases hmethM.symm.trans hmethM'
  obtain ⟨c2, r2, m2, q1, q2, q3, q4, kP, hkP, hkPi⟩ := Cond.selects_spec hsel
  cases hcls.symm.trans q1
  cases (State.methodFound?_of_named hnamed hy).symm.trans q2
  cases hnamed.symm.trans q3
  have hselP : selectMethod e.platform s.vm cellB.cls mk = .method mk := by rw [Launch.admits_selectMethod X.admits]; exact q4
  obtain ⟨vm₁, X₁, hstep₁⟩ := X.invokevirtual hexec hown hlink hnamed hmethM hstM hkP hkPi hy (a := b) (cell := cellB) hcell
    (fun z h => by rw [h] at hobj; cases hobj) hselP hmethM habM hkP hkPi (g := g) hg (argsL := argsL) (rest := rest) (hlen _ hsigM) hstack hdg
  rcases hK m meth c ⟨T.setVm vm₁, locs, cells, slots⟩ { g with stack := rest } (.invokevirtual index) mk (Value.ref b :: argsL).toArray X₁ hg hsize hdg hW (X₁.named hnamed) (hpre vm₁ X₁.warmed) with ⟨v, B, X', hpost, hsteps⟩ | ⟨q, B, X', hpost, hsteps⟩
  · exact Or.inl ⟨v, vm₁, B, X₁.warmed, X', hpost, fun target h => hstep₁ _ fun acts => by rw [doInvoke_state]; exact hsteps.trans h⟩
  · exact Or.inr ⟨q, vm₁, B, X₁.warmed, X', hpost, hstep₁ _ fun acts => by rw [doInvoke_state]; exact hsteps⟩
theorem vx_callSX (X : Stand p l e R s m args below meth c T locs cells slots) (hexec : p.tables.exec = Jvm.exec) {own : String} {index : Nat} {y : MethodName} {bytes : ByteArray} {maxL : Nat} {ret : Option FieldType} {hh : List (Nat × Nat × Nat × Nat)}
    (hown : s.vm.findClass own = some m.cls) (hlink : (Cond.methodLink own index y).before args s = true) (hstat : (Cond.static y).before args s = true) (hinit : (Cond.initialized y.cls).before args s = true)
    (hcode : (Cond.codeWith y bytes maxL ret hh).before args s = true) (hy : y.cls ≠ "java/lang/invoke/MethodHandle" ∧ y.cls ≠ "java/lang/invoke/VarHandle")
    {W9 : Nat} {Pre : Pt → Array Value → Prop} {Post : Pt → Array Value → Option Value → Pt → Prop} {PostX : Pt → Array Value → Addr → Pt → Prop} (hK : vx_Back l R p e below s args y 3 W9 Pre Post PostX)
    {g : JFrame} (hg : g.method = m) (hsize : g.locals.size = c.maxLocals) {argsL rest : List Value} (hlen : ∀ sig, parseMethodDescriptor y.desc = some sig → argsL.length = sig.parameters.length)
    (hstack : g.stack = argsL.reverse ++ rest) (hW : 2 * g.monitorRoom + (rest.map fun v => v.category).sum ≤ W9) (hdg : decode c.code g.pc = .ok (.invokestatic index, 3))
    (hpre : ∀ vm₁, s.WarmedH vm₁ → Pre ⟨T.setVm vm₁, locs, cells, slots⟩ argsL.toArray) :
    (∃ (v : Option Value) (vm₁ : Vm) (B : Pt), s.WarmedH vm₁ ∧ Stand p l e R s m args below meth c B.U B.locs B.cells B.slots ∧ Post ⟨T.setVm vm₁, locs, cells, slots⟩ argsL.toArray v B ∧
      ∀ target, Steps p.tables e below (B.U.setTop { g with pc := g.pc + 3, stack := v.toList ++ rest }) target → Steps p.tables e below (T.setTop g) target) ∨
    (∃ (q : Addr) (vm₁ : Vm) (B : Pt), s.WarmedH vm₁ ∧ Stand p l e R s m args below meth c B.U B.locs B.cells B.slots ∧ PostX ⟨T.setVm vm₁, locs, cells, slots⟩ argsL.toArray q B ∧
      Steps p.tables e below (T.setTop g) ((B.U.setTop { g with stack := rest }).pushFrame (.throwing q))) := by
  obtain ⟨mk, methM, cM, hnamed, hmethM, -, -, -, -, -, -, hsigM⟩ := Cond.codeWith_spec hcode
  have hstatic : methM.isStatic = true := Cond.static_spec hnamed hmethM hstat
  obtain ⟨kP, hkP, -⟩ := className_of_methodNamed hnamed
  have hinitP : kP.init = .initialized := Cond.initialized_spec (findClass_of_methodNamed hnamed) hkP hinit
  obtain ⟨vm₁, X₁, hstep₁⟩ := X.invokestatic hexec hown hlink hnamed hmethM hstatic hkP hinitP hy (g := g) hg (argsL := argsL) (rest := rest) (hlen _ hsigM) hstack hdg
  rcases hK m meth c ⟨T.setVm vm₁, locs, cells, slots⟩ { g with stack := rest } (.invokestatic index) mk argsL.toArray X₁ hg hsize hdg hW (X₁.named hnamed) (hpre vm₁ X₁.warmed) with ⟨v, B, X', hpost, hsteps⟩ | ⟨q, B, X', hpost, hsteps⟩
  · exact Or.inl ⟨v, vm₁, B, X₁.warmed, X', hpost, fun target h => hstep₁ _ fun acts => by rw [doInvoke_state]; exact hsteps.trans h⟩
  · exact Or.inr ⟨q, vm₁, B, X₁.warmed, X', hpost, hstep₁ _ fun acts => by rw [doInvoke_state]; exact hsteps⟩
theorem vx_callVW (X : Stand p l e R s m args below meth c T locs cells slots) (hexec : p.tables.exec = Jvm.exec) {own C : String} {index : Nat} {y : MethodName} {bytes : ByteArray} {maxL : Nat} {ret : Option FieldType} {hh : List (Nat × Nat × Nat × Nat)}
    (hown : s.vm.findClass own = some m.cls) (hlink : (Cond.methodLink own index y).before args s = true) (hinst : (Cond.instanceMethod y).before args s = true) (hsel : (Cond.selects C y y).before args s = true)
    (hcode : (Cond.codeWith y bytes maxL ret hh).before args s = true) (hy : y.cls ≠ "java/lang/invoke/MethodHandle" ∧ y.cls ≠ "java/lang/invoke/VarHandle")
    {W9 : Nat} {Pre : Pt → Array Value → Prop} {Post : Pt → Array Value → Option Value → Pt → Prop} (hK : Back l R p e below s args y 3 W9 Pre Post)
    {b : Addr} {cellB : Cell} (hcell : T.heap[b]? = some cellB) (hobj : cellB.vm.isStatics = false) (hcls : s.vm.findClass C = some cellB.cls)
    {g : JFrame} (hg : g.method = m) (hsize : g.locals.size = c.maxLocals) {argsL rest : List Value} (hlen : ∀ sig, parseMethodDescriptor y.desc = some sig → argsL.length = sig.parameters.length)
    (hstack : g.stack = argsL.reverse ++ .ref b :: rest) (hW : 2 * g.monitorRoom + (rest.map fun v => v.category).sum ≤ W9) (hdg : decode c.code g.pc = .ok (.invokevirtual index, 3))
    (hpre : ∀ vm₁, s.WarmedH vm₁ → Pre ⟨T.setVm vm₁, locs, cells, slots⟩ (Value.ref b :: argsL).toArray) :
    ∃ (v : Option Value) (vm₁ : Vm) (B : Pt), s.WarmedH vm₁ ∧ Stand p l e R s m args below meth c B.U B.locs B.cells B.slots ∧ Post ⟨T.setVm vm₁, locs, cells, slots⟩ (Value.ref b :: argsL).toArray v B ∧
      ∀ target, Steps p.tables e below (B.U.setTop { g with pc := g.pc + 3, stack := v.toList ++ rest }) target → Steps p.tables e below (T.setTop g) target := by
  obtain ⟨mk, methM, hnamed, hmethM, hstM, habM⟩ := Cond.instanceMethod_spec hinst
  obtain ⟨m8, methM', cM, hn8, hmethM', -, -, -, -, -, -, hsigM⟩ := Cond.codeWith_spec hcode
  cases Option.some.inj (hn8.symm.trans hnamed)
  cases hmethM.symm.trans hmethM'
  obtain ⟨c2, r2, m2, q1, q2, q3, q4, kP, hkP, hkPi⟩ := Cond.selects_spec hsel
  cases hcls.symm.trans q1
  cases (State.methodFound?_of_named hnamed hy).symm.trans q2
  cases hnamed.symm.trans q3
  have hselP : selectMethod e.platform s.vm cellB.cls mk = .method mk := by rw [Launch.admits_selectMethod X.admits]; exact q4
  obtain ⟨vm₁, X₁, hstep₁⟩ := X.invokevirtual hexec hown hlink hnamed hmethM hstM hkP hkPi hy (a := b) (cell := cellB) hcell
    (fun z h => by rw [h] at hobj; cases hobj) hselP hmethM habM hkP hkPi (g := g) hg (argsL := argsL) (rest := rest) (hlen _ hsigM) hstack hdg
  obtain ⟨v, B, X', hpost, hsteps⟩ := hK m meth c ⟨T.setVm vm₁, locs, cells, slots⟩ { g with stack := rest } (.invokevirtual index) mk (Value.ref b :: argsL).toArray X₁ hg hsize hdg hW (X₁.named hnamed) (hpre vm₁ X₁.warmed)
  exact ⟨v, vm₁, B, X₁.warmed, X', hpost, fun target h => hstep₁ _ fun acts => by rw [doInvoke_state]; exact hsteps.trans h⟩
abbrev vx_CVW (R : Room) (s : State) (args : Array Value) (own C : String) (index : Nat) (y : MethodName) (bytes : ByteArray) (maxL : Nat) (ret : Option FieldType) (hh : List (Nat × Nat × Nat × Nat)) (ws : List Cond) (rm : Room) (mc ms n : Nat) : Prop :=
  (rm.cells = mc ∧ rm.slots = ms ∧ rm.frames + 1 ≤ R.frames ∧ 8 + (maxL + 11) + rm.locals ≤ R.locals ∧ (∀ w ∈ ws, ∀ (a' : Array Value) (U : State), s.WarmedH U.vm → w.before a' U = true) ∧ Cond.codeWith y bytes maxL ret hh ∈ ws) ∧
  (Cond.codeWith y bytes maxL ret hh).before args s = true ∧ (Cond.initialized y.cls).before args s = true ∧ (y.cls ≠ "java/lang/invoke/MethodHandle" ∧ y.cls ≠ "java/lang/invoke/VarHandle") ∧
  (∀ sig, parseMethodDescriptor y.desc = some sig → n = sig.parameters.length) ∧ (Cond.methodLink own index y).before args s = true ∧ (Cond.instanceMethod y).before args s = true ∧ (Cond.selects C y y).before args s = true
theorem vx_cwVW {own C : String} {index maxL mc ms : Nat} {y : MethodName} {bytes : ByteArray} {ret : Option FieldType} {hh : List (Nat × Nat × Nat × Nat)} {Ts ws ws' : List Cond} {rm : Room} (n : Nat) (ht : ∀ w ∈ Ts, w.before args s = true) (hT : GoodIn Ts (wsV own index C y ws)) (hw : ws = Cond.codeWith y bytes maxL ret hh :: ws') (hrc : rm.cells = mc) (hrs : rm.slots = ms)
    (hd : y.cls = C ∧ y.cls ≠ "java/lang/invoke/MethodHandle" ∧ y.cls ≠ "java/lang/invoke/VarHandle" ∧ (parseMethodDescriptor y.desc).map (fun d => d.parameters.length) = some n) (hR : rm.frames + 1 ≤ R.frames ∧ 8 + (maxL + 11) + rm.locals ≤ R.locals) :
    vx_CVW R s args own C index y bytes maxL ret hh ws rm mc ms n := by
  obtain ⟨hC, hd⟩ := hd
  subst hC
  have ok : ∀ w ∈ wsV own index y.cls y ws, w.before args s = true := fun w h => ht w (hT w h).1
  have hG : GoodIn Ts ws := fun w h => hT w (by unfold wsV; exact List.mem_append_right _ h)
  have hc : Cond.codeWith y bytes maxL ret hh ∈ ws := by rw [hw]; exact List.mem_cons_self
  refine ⟨⟨hrc, hrs, hR.1, hR.2, pay_in ht hG, hc⟩, ht _ (hG _ hc).1, ok _ (by simp [wsV]), ⟨hd.1, hd.2.1⟩, fun sig h => ?_, ok _ (by simp [wsV]), ok _ (by simp [wsV]), ok _ (by simp [wsV])⟩
  have h2 := hd.2.2
  rw [h] at h2
  exact (Option.some.inj h2).symm
theorem vx_runVW {y : MethodName} {bytes cc : ByteArray} {maxL nL mc ms n index : Nat} {ret : Option FieldType} {hh : List (Nat × Nat × Nat × Nat)} {ws : List Cond} {rm : Room} {Pc : Array Value → State → Prop} {Qc : Array Value → State → Outcome → State → Prop} {free : Addr → Prop} {Ts : List Cond} {own C : String} {b : Addr} {As rest : List Value} {g : JFrame}
    (S : CallFix p m c cc nL s args Ts own) (hM : Met l y ws rm Pc Qc mc ms free) (cw : vx_CVW R s args own C index y bytes maxL ret hh ws rm mc ms n) (hp : PreV s H C b Pc As)
    (hg : g.method = m) (hn : As.length = n) (hsize : g.locals.size = nL) (hstack : g.stack = As.reverse ++ .ref b :: rest) (hW : 2 * g.monitorRoom + (rest.map fun v => v.category).sum ≤ 8) (hdg : decode cc g.pc = .ok (.invokevirtual index, 3)) (hf : cells + mc ≤ R.cells ∧ slots + ms ≤ R.slots) :
    va_Run p l e R s m args below meth c H locs cells slots mc ms g rest (Qc (Value.ref b :: As).toArray) free := by
  obtain ⟨⟨hrc, hrs, hfr, hlo, hws, hcw⟩, hcode, hini, hy, hlen, hl, hin, hse⟩ := cw
  have hK : Back l R p e below s args y 3 8 (PreOf R mc ms Pc) (PostOf Qc mc ms free) := va_backW (hh := hh) (bytes := bytes) (maxL := maxL) (ret := ret) hM hp.1 hrc hrs hfr hlo hws hcw (fun a' U hW => word_at hW (Or.inl (by first | rfl | simp [Cond.onTables, Cond.keeps, Cond.steady])) hini)
  obtain ⟨hx, hb, hml, ho, -⟩ := S
  obtain ⟨-, ⟨cellB, hcB, hoB, hclB⟩, hPc⟩ := hp
  intro T hT X
  obtain ⟨v, vm₁, ⟨U', l2, c2, s2⟩, hW₁, X', ⟨g', mk, t, L, e1, e2, hq, h1, hL, h2, h3⟩, st⟩ := vx_callVW X hx (C := C) (hh := hh) (bytes := bytes) (maxL := maxL) (ret := ret) ho hl hin hse hcode hy hK (by rw [hT]; exact hcB) hoB hclB hg (hsize.trans hml.symm) (argsL := As) (rest := rest) (fun sig h => hn.trans (hlen sig h)) hstack hW (by rw [hb]; exact hdg)
    (fun vm₁ hW₁ => ⟨hf.1, hf.2, hPc (T.setVm vm₁) hT hW₁⟩)
  dsimp only [Pt.U, Pt.locs, Pt.cells, Pt.slots] at X' e1 e2 h1 h2 h3 st
  subst h1; subst h2; subst h3
  exact ⟨v, (T.setVm vm₁).calling g' mk (Value.ref b :: As).toArray, t, U', L, hT, X', hL, e1, e2, hq, st⟩
section
variable {y : MethodName} {bytes cc : ByteArray} {maxL nL mc ms n index : Nat} {ret : Option FieldType} {ws : List Cond} {rm : Room} {Pc : Array Value → State → Prop} {Qc : Array Value → State → Outcome → State → Prop} {XC : String → State → State → Prop} {free : Addr → Prop} {Ts : List Cond} {own C : String} {b : Addr} {As rest : List Value} {g : JFrame}
theorem vx_runVX {hh : List (Nat × Nat × Nat × Nat)} (S : CallFix p m c cc nL s args Ts own) (hM : vx_Met l y ws rm Pc Qc XC mc ms free) (cw : vx_CVW R s args own C index y bytes maxL ret hh ws rm mc ms n) (hp : PreV s H C b Pc As)
    (hg : g.method = m) (hn : As.length = n) (hsize : g.locals.size = nL) (hstack : g.stack = As.reverse ++ .ref b :: rest) (hW : 2 * g.monitorRoom + (rest.map fun v => v.category).sum ≤ 8) (hdg : decode cc g.pc = .ok (.invokevirtual index, 3)) (hf : cells + mc ≤ R.cells ∧ slots + ms ≤ R.slots) :
    vx_Run p l e R s m args below meth c H locs cells slots mc ms g rest (Qc (Value.ref b :: As).toArray) XC free := by
  obtain ⟨⟨hrc, hrs, hfr, hlo, hws, hcw⟩, hcode, hini, hy, hlen, hl, hin, hse⟩ := cw
  have hK : vx_Back l R p e below s args y 3 8 (PreOf R mc ms Pc) (PostOf Qc mc ms free) (vx_Post XC mc ms free) := vx_backW (hh := hh) (bytes := bytes) (maxL := maxL) (ret := ret) hM hp.1 hrc hrs hfr hlo hws hcw (fun a' U hW => word_at hW (Or.inl (by first | rfl | simp [Cond.onTables, Cond.keeps, Cond.steady])) hini)
  obtain ⟨hx, hb, hml, ho, -⟩ := S
  obtain ⟨-, ⟨cellB, hcB, hoB, hclB⟩, hPc⟩ := hp
  intro T hT X
  rcases vx_callVX X hx (C := C) (hh := hh) (bytes := bytes) (maxL := maxL) (ret := ret) ho hl hin hse hcode hy hK (by rw [hT]; exact hcB) hoB hclB hg (hsize.trans hml.symm) (argsL := As) (rest := rest) (fun sig h => hn.trans (hlen sig h)) hstack hW (by rw [hb]; exact hdg)
    (fun vm₁ hW₁ => ⟨hf.1, hf.2, hPc (T.setVm vm₁) hT hW₁⟩) with ⟨v, vm₁, ⟨U', l2, c2, s2⟩, hW₁, X', ⟨g', mk, t, L, e1, e2, hq, h1, hL, h2, h3⟩, st⟩ | ⟨q, vm₁, ⟨U', l2, c2, s2⟩, hW₁, X', ⟨g', mk, t, L, E, ce, e1, e2, hq, hce, hcv, hcl, h1, hL, h2, h3⟩, st⟩
  · dsimp only [Pt.U, Pt.locs, Pt.cells, Pt.slots] at X' e1 e2 h1 h2 h3 st
    subst h1; subst h2; subst h3
    exact Or.inl ⟨v, (T.setVm vm₁).calling g' mk (Value.ref b :: As).toArray, t, U', L, hT, X', hL, e1, e2, hq, st⟩
  · dsimp only [Pt.U, Pt.locs, Pt.cells, Pt.slots] at X' e1 e2 h1 h2 h3 st hcl
    subst h1; subst h2; subst h3
    exact Or.inr ⟨q, (T.setVm vm₁).calling g' mk (Value.ref b :: As).toArray, t, U', L, E, ce, hT, X', hL, e1, e2, hq, hce, hcv, vx_cls hW₁ hcl, st⟩
theorem vx_runSX {hh : List (Nat × Nat × Nat × Nat)} (S : CallFix p m c cc nL s args Ts own) (hM : vx_Met l y ws rm Pc Qc XC mc ms free) (cw : vx_CSW R s args own index y bytes maxL ret hh ws rm mc ms n) (hp : PreS s H Pc As)
    (hg : g.method = m) (hn : As.length = n) (hsize : g.locals.size = nL) (hstack : g.stack = As.reverse ++ rest) (hW : 2 * g.monitorRoom + (rest.map fun v => v.category).sum ≤ 8) (hdg : decode cc g.pc = .ok (.invokestatic index, 3)) (hf : cells + mc ≤ R.cells ∧ slots + ms ≤ R.slots) :
    vx_Run p l e R s m args below meth c H locs cells slots mc ms g rest (Qc As.toArray) XC free := by
  obtain ⟨⟨hrc, hrs, hfr, hlo, hws, hcw⟩, hcode, hini, hy, hlen, hl, hstt⟩ := cw
  have hK : vx_Back l R p e below s args y 3 8 (PreOf R mc ms Pc) (PostOf Qc mc ms free) (vx_Post XC mc ms free) := vx_backW (hh := hh) (bytes := bytes) (maxL := maxL) (ret := ret) hM hp.1 hrc hrs hfr hlo hws hcw (fun a' U hW => word_at hW (Or.inl (by first | rfl | simp [Cond.onTables, Cond.keeps, Cond.steady])) hini)
  obtain ⟨hx, hb, hml, ho, -⟩ := S
  intro T hT X
  rcases vx_callSX X hx (hh := hh) (bytes := bytes) (maxL := maxL) (ret := ret) ho hl hstt hini hcode hy hK hg (hsize.trans hml.symm) (argsL := As) (rest := rest) (fun sig h => hn.trans (hlen sig h)) hstack hW (by rw [hb]; exact hdg)
    (fun vm₁ hW₁ => ⟨hf.1, hf.2, hp.2 (T.setVm vm₁) hT hW₁⟩) with ⟨v, vm₁, ⟨U', l2, c2, s2⟩, hW₁, X', ⟨g', mk, t, L, e1, e2, hq, h1, hL, h2, h3⟩, st⟩ | ⟨q, vm₁, ⟨U', l2, c2, s2⟩, hW₁, X', ⟨g', mk, t, L, E, ce, e1, e2, hq, hce, hcv, hcl, h1, hL, h2, h3⟩, st⟩
  · dsimp only [Pt.U, Pt.locs, Pt.cells, Pt.slots] at X' e1 e2 h1 h2 h3 st
    subst h1; subst h2; subst h3
    exact Or.inl ⟨v, (T.setVm vm₁).calling g' mk As.toArray, t, U', L, hT, X', hL, e1, e2, hq, st⟩
  · dsimp only [Pt.U, Pt.locs, Pt.cells, Pt.slots] at X' e1 e2 h1 h2 h3 st hcl
    subst h1; subst h2; subst h3
    exact Or.inr ⟨q, (T.setVm vm₁).calling g' mk As.toArray, t, U', L, E, ce, hT, X', hL, e1, e2, hq, hce, hcv, vx_cls hW₁ hcl, st⟩
end
end VXH
theorem vx_ofWH {l : Launch} {y : MethodName} {ws ws' : List Cond} {rm : Room} {Pc : Array Value → State → Prop} {Qc : Array Value → State → Outcome → State → Prop} {XC : String → State → State → Prop} {mc ms : Nat} {free : Addr → Prop} {cc : ByteArray} {maxL : Nat} {ret : Option FieldType} {hh : List (Nat × Nat × Nat × Nat)}
    (hy : plainName y.cls = true) (hw : ws = Cond.codeWith y cc maxL ret hh :: ws')
    (body : ∀ p e s m args below meth c s₁, BodyLoose p l y (headSpec ws rm) cc maxL ret e s m args below meth c s₁ → c.maxLocals = maxL → Pc args s →
      W p l e (headSpec ws rm).room s m args below meth c s.heap [] 0 0 (vx_MQ below Qc XC args s mc ms free) (entryFrame m args maxL)) : vx_Met l y ws rm Pc Qc XC mc ms free := by
  refine MetFree.of_bodyS (code := cc) (maxLocals := maxL) (ret := ret) hy ?_ ?_
  · intro args s m h hn
    obtain ⟨m9, meth, c, hn9, h1, h2, h3, h4, -, h5, h6, -⟩ := Cond.codeWith_spec (atoms_spec (ws := ws) h _ (by rw [hw]; exact List.mem_cons_self))
    cases hn.symm.trans hn9
    exact ⟨meth, c, h1, h2, h3, h4, h5, h6⟩
  · intro p e s m args below meth c s₁ B hml hP _
    have hh0 : s₁.heap = s.heap := by rw [B.state]; rfl
    obtain ⟨t, a1, o, b1, b2, b3⟩ := body p e s m args below meth c s₁ B hml hP s₁ hh0 (Stand.of_body B)
    exact ⟨t, o, a1, b1, b2, b3⟩
/-! ===== END ===== -/
end
section
def RX0 : String := "MillstreamPayments$Accounts"
def TX0 : u_T := fun k => match k with
  | 0 => ("MillstreamPayments$Accounts", "book", "LMillstreamPayments$Book;", true)
  | 1 => ("MillstreamPayments$Accounts", "balances", "LMillstreamPayments$Row;", true)
  | 2 => ("MillstreamPayments$Accounts", "lines", "LMillstreamPayments$Row;", true)
  | 3 => ("MillstreamPayments$Accounts", "paidToday", "LMillstreamPayments$Row;", true)
  | _ => ("MillstreamPayments$Accounts", "limits", "LMillstreamPayments$Row;", true)
def tyX0 : Nat → FieldType := fun k => match k with
  | 0 => .object "MillstreamPayments$Book"
  | 1 => .object "MillstreamPayments$Row"
  | 2 => .object "MillstreamPayments$Row"
  | 3 => .object "MillstreamPayments$Row"
  | _ => .object "MillstreamPayments$Row"
abbrev wsX00 : List Cond := u_ws RX0 TX0 5
theorem nmX0 : ∀ a, a < 5 → ∀ b, b < 5 → a ≠ b → (TX0 a).2.1 ≠ (TX0 b).2.1 := by decide +kernel
theorem tyX0_ok : ∀ k, k < 5 → parseFieldDescriptor (TX0 k).2.2.1 = some (tyX0 k) := by decide +kernel
abbrev cX0_init : ByteArray := prog_2_method_1_code
def yX0_init : MethodName := ⟨RX0, "<init>", "()V"⟩
abbrev cX0_balanceOf : ByteArray := prog_2_method_2_code
def yX0_balanceOf : MethodName := ⟨RX0, "balanceOf", "(II)J"⟩
abbrev cX0_paidOf : ByteArray := prog_2_method_3_code
def yX0_paidOf : MethodName := ⟨RX0, "paidOf", "(I)J"⟩
abbrev cX0_changeLine : ByteArray := prog_2_method_4_code
def yX0_changeLine : MethodName := ⟨RX0, "changeLine", "(III)I"⟩
abbrev cX0_changeLimit : ByteArray := prog_2_method_5_code
def yX0_changeLimit : MethodName := ⟨RX0, "changeLimit", "(II)I"⟩
abbrev cX0_move : ByteArray := prog_2_method_6_code
def yX0_move : MethodName := ⟨RX0, "move", "(IIIJI)V"⟩
abbrev cX0_pay : ByteArray := prog_2_method_7_code
def yX0_pay : MethodName := ⟨RX0, "pay", "(LMillstreamPayments$Terms;I)V"⟩
abbrev cX0_isTooLowBy : ByteArray := prog_2_method_8_code
def yX0_isTooLowBy : MethodName := ⟨RX0, "isTooLowBy", "(IJ)Z"⟩
abbrev cX0_isPassedBy : ByteArray := prog_2_method_9_code
def yX0_isPassedBy : MethodName := ⟨RX0, "isPassedBy", "(IJ)Z"⟩
abbrev cX0_beginDay : ByteArray := prog_2_method_10_code
def yX0_beginDay : MethodName := ⟨RX0, "beginDay", "()V"⟩
def RX1 : String := "MillstreamPayments$Advices"
def TX1 : u_T := fun k => match k with
  | 0 => ("MillstreamPayments$Advices", "told", "LMillstreamPayments$Row;", true)
  | 1 => ("MillstreamPayments$Advices", "counts", "LMillstreamPayments$Row;", true)
  | 2 => ("MillstreamPayments$Advices", "taken", "LMillstreamPayments$Row;", true)
  | _ => ("MillstreamPayments$Advices", "most", "LMillstreamPayments$Row;", true)
def tyX1 : Nat → FieldType := fun k => match k with
  | 0 => .object "MillstreamPayments$Row"
  | 1 => .object "MillstreamPayments$Row"
  | 2 => .object "MillstreamPayments$Row"
  | _ => .object "MillstreamPayments$Row"
abbrev wsX10 : List Cond := u_ws RX1 TX1 4
theorem nmX1 : ∀ a, a < 4 → ∀ b, b < 4 → a ≠ b → (TX1 a).2.1 ≠ (TX1 b).2.1 := by decide +kernel
theorem tyX1_ok : ∀ k, k < 4 → parseFieldDescriptor (TX1 k).2.2.1 = some (tyX1 k) := by decide +kernel
abbrev cX1_init : ByteArray := prog_3_method_1_code
def yX1_init : MethodName := ⟨RX1, "<init>", "()V"⟩
abbrev cX1_tell : ByteArray := prog_3_method_2_code
def yX1_tell : MethodName := ⟨RX1, "tell", "(II)V"⟩
abbrev cX1_takeNext : ByteArray := prog_3_method_3_code
def yX1_takeNext : MethodName := ⟨RX1, "takeNext", "(I)I"⟩
abbrev cX1_mostTaken : ByteArray := prog_3_method_4_code
def yX1_mostTaken : MethodName := ⟨RX1, "mostTaken", "(I)I"⟩
abbrev cX1_startFrom : ByteArray := prog_3_method_5_code
def yX1_startFrom : MethodName := ⟨RX1, "startFrom", "(II)I"⟩
def RX2 : String := "MillstreamPayments$Batch"
def TX2 : u_T := fun k => match k with
  | 0 => ("MillstreamPayments$Batch", "members", "LMillstreamPayments$Row;", true)
  | 1 => ("MillstreamPayments$Batch", "changes", "LMillstreamPayments$Row;", true)
  | _ => ("MillstreamPayments$Batch", "flows", "LMillstreamPayments$Row;", true)
def tyX2 : Nat → FieldType := fun k => match k with
  | 0 => .object "MillstreamPayments$Row"
  | 1 => .object "MillstreamPayments$Row"
  | _ => .object "MillstreamPayments$Row"
abbrev wsX20 : List Cond := u_ws RX2 TX2 3
theorem nmX2 : ∀ a, a < 3 → ∀ b, b < 3 → a ≠ b → (TX2 a).2.1 ≠ (TX2 b).2.1 := by decide +kernel
theorem tyX2_ok : ∀ k, k < 3 → parseFieldDescriptor (TX2 k).2.2.1 = some (tyX2 k) := by decide +kernel
abbrev cX2_init : ByteArray := prog_4_method_1_code
def yX2_init : MethodName := ⟨RX2, "<init>", "()V"⟩
abbrev cX2_clear : ByteArray := prog_4_method_2_code
def yX2_clear : MethodName := ⟨RX2, "clear", "()V"⟩
abbrev cX2_has : ByteArray := prog_4_method_3_code
def yX2_has : MethodName := ⟨RX2, "has", "(LMillstreamPayments$Payment;)Z"⟩
abbrev cX2_put : ByteArray := prog_4_method_4_code
def yX2_put : MethodName := ⟨RX2, "put", "(LMillstreamPayments$Payment;)V"⟩
abbrev cX2_drop : ByteArray := prog_4_method_5_code
def yX2_drop : MethodName := ⟨RX2, "drop", "(LMillstreamPayments$Payment;)V"⟩
abbrev cX2_count : ByteArray := prog_4_method_6_code
def yX2_count : MethodName := ⟨RX2, "count", "(LMillstreamPayments$Terms;J)V"⟩
abbrev cX2_lowestTooLow : ByteArray := prog_4_method_7_code
def yX2_lowestTooLow : MethodName := ⟨RX2, "lowestTooLow", "(LMillstreamPayments$Accounts;I)I"⟩
abbrev cX2_passesLimit : ByteArray := prog_4_method_8_code
def yX2_passesLimit : MethodName := ⟨RX2, "passesLimit", "(LMillstreamPayments$Accounts;III)Z"⟩
abbrev cX2_isWithinBounds : ByteArray := prog_4_method_9_code
def yX2_isWithinBounds : MethodName := ⟨RX2, "isWithinBounds", "(LMillstreamPayments$Accounts;I)Z"⟩
def RX3 : String := "MillstreamPayments$Book"
def TX3 : u_T := fun k => match k with
  | _ => ("MillstreamPayments$Book", "kept", "Ljava/util/ArrayList;", true)
def tyX3 : Nat → FieldType := fun k => match k with
  | _ => .object "java/util/ArrayList"
abbrev wsX30 : List Cond := u_ws RX3 TX3 1
theorem nmX3 : ∀ a, a < 1 → ∀ b, b < 1 → a ≠ b → (TX3 a).2.1 ≠ (TX3 b).2.1 := by decide +kernel
theorem tyX3_ok : ∀ k, k < 1 → parseFieldDescriptor (TX3 k).2.2.1 = some (tyX3 k) := by decide +kernel
abbrev cX3_init : ByteArray := prog_5_method_1_code
def yX3_init : MethodName := ⟨RX3, "<init>", "()V"⟩
abbrev cX3_count : ByteArray := prog_5_method_2_code
def yX3_count : MethodName := ⟨RX3, "count", "()I"⟩
abbrev cX3_find : ByteArray := prog_5_method_3_code
def yX3_find : MethodName := ⟨RX3, "find", "(I)LMillstreamPayments$Entry;"⟩
abbrev cX3_keep : ByteArray := prog_5_method_4_code
def yX3_keep : MethodName := ⟨RX3, "keep", "(LMillstreamPayments$Entry;)V"⟩
abbrev cX3_sumOf : ByteArray := prog_5_method_5_code
def yX3_sumOf : MethodName := ⟨RX3, "sumOf", "(II)J"⟩
def RX4 : String := "MillstreamPayments$Calendar"
def TX4 : u_T := fun k => match k with
  | 0 => ("MillstreamPayments$Calendar", "day", "I", false)
  | _ => ("MillstreamPayments$Calendar", "holidays", "LMillstreamPayments$Row;", true)
def tyX4 : Nat → FieldType := fun k => match k with
  | 0 => .int
  | _ => .object "MillstreamPayments$Row"
abbrev wsX40 : List Cond := u_ws RX4 TX4 2
theorem nmX4 : ∀ a, a < 2 → ∀ b, b < 2 → a ≠ b → (TX4 a).2.1 ≠ (TX4 b).2.1 := by decide +kernel
theorem tyX4_ok : ∀ k, k < 2 → parseFieldDescriptor (TX4 k).2.2.1 = some (tyX4 k) := by decide +kernel
abbrev cX4_init : ByteArray := prog_6_method_1_code
def yX4_init : MethodName := ⟨RX4, "<init>", "()V"⟩
abbrev cX4_changeHoliday : ByteArray := prog_6_method_2_code
def yX4_changeHoliday : MethodName := ⟨RX4, "changeHoliday", "(IIZ)V"⟩
abbrev cX4_isOpen : ByteArray := prog_6_method_3_code
def yX4_isOpen : MethodName := ⟨RX4, "isOpen", "(II)Z"⟩
abbrev cX4_isOpenToday : ByteArray := prog_6_method_4_code
def yX4_isOpenToday : MethodName := ⟨RX4, "isOpenToday", "(I)Z"⟩
def RX5 : String := "MillstreamPayments$Entry"
def TX5 : u_T := fun k => match k with
  | 0 => ("MillstreamPayments$Entry", "from", "I", true)
  | 1 => ("MillstreamPayments$Entry", "to", "I", true)
  | 2 => ("MillstreamPayments$Entry", "currency", "I", true)
  | 3 => ("MillstreamPayments$Entry", "amount", "J", true)
  | _ => ("MillstreamPayments$Entry", "payment", "I", true)
def tyX5 : Nat → FieldType := fun k => match k with
  | 0 => .int
  | 1 => .int
  | 2 => .int
  | 3 => .long
  | _ => .int
abbrev wsX50 : List Cond := u_ws RX5 TX5 5
theorem nmX5 : ∀ a, a < 5 → ∀ b, b < 5 → a ≠ b → (TX5 a).2.1 ≠ (TX5 b).2.1 := by decide +kernel
theorem tyX5_ok : ∀ k, k < 5 → parseFieldDescriptor (TX5 k).2.2.1 = some (tyX5 k) := by decide +kernel
abbrev cX5_init : ByteArray := prog_7_method_1_code
def yX5_init : MethodName := ⟨RX5, "<init>", "(IIIJI)V"⟩
abbrev cX5_part : ByteArray := prog_7_method_2_code
def yX5_part : MethodName := ⟨RX5, "part", "(I)J"⟩
def RX6 : String := "MillstreamPayments$Exchange"
def TX6 : u_T := fun k => match k with
  | 0 => ("MillstreamPayments$Exchange", "calendar", "LMillstreamPayments$Calendar;", true)
  | 1 => ("MillstreamPayments$Exchange", "accounts", "LMillstreamPayments$Accounts;", true)
  | 2 => ("MillstreamPayments$Exchange", "register", "LMillstreamPayments$Register;", true)
  | 3 => ("MillstreamPayments$Exchange", "advices", "LMillstreamPayments$Advices;", true)
  | 4 => ("MillstreamPayments$Exchange", "outages", "LMillstreamPayments$Row;", true)
  | 5 => ("MillstreamPayments$Exchange", "listed", "LMillstreamPayments$Row;", true)
  | 6 => ("MillstreamPayments$Exchange", "doubles", "I", false)
  | _ => ("MillstreamPayments$Exchange", "batch", "LMillstreamPayments$Batch;", true)
def tyX6 : Nat → FieldType := fun k => match k with
  | 0 => .object "MillstreamPayments$Calendar"
  | 1 => .object "MillstreamPayments$Accounts"
  | 2 => .object "MillstreamPayments$Register"
  | 3 => .object "MillstreamPayments$Advices"
  | 4 => .object "MillstreamPayments$Row"
  | 5 => .object "MillstreamPayments$Row"
  | 6 => .int
  | _ => .object "MillstreamPayments$Batch"
abbrev wsX60 : List Cond := u_ws RX6 TX6 8
theorem nmX6 : ∀ a, a < 8 → ∀ b, b < 8 → a ≠ b → (TX6 a).2.1 ≠ (TX6 b).2.1 := by decide +kernel
theorem tyX6_ok : ∀ k, k < 8 → parseFieldDescriptor (TX6 k).2.2.1 = some (tyX6 k) := by decide +kernel
abbrev cX6_init : ByteArray := prog_8_method_1_code
def yX6_init : MethodName := ⟨RX6, "<init>", "()V"⟩
abbrev cX6_bringIn : ByteArray := prog_8_method_2_code
def yX6_bringIn : MethodName := ⟨RX6, "bringIn", "(LMillstreamPayments$Terms;)I"⟩
abbrev cX6_termsBack : ByteArray := prog_8_method_3_code
def yX6_termsBack : MethodName := ⟨RX6, "termsBack", "(LMillstreamPayments$Terms;)LMillstreamPayments$Terms;"⟩
abbrev cX6_letEnter : ByteArray := prog_8_method_4_code
def yX6_letEnter : MethodName := ⟨RX6, "letEnter", "(LMillstreamPayments$Payment;)V"⟩
abbrev cX6_holdPaymentsFor : ByteArray := prog_8_method_5_code
def yX6_holdPaymentsFor : MethodName := ⟨RX6, "holdPaymentsFor", "(I)I"⟩
abbrev cX6_runQueues : ByteArray := prog_8_method_6_code
def yX6_runQueues : MethodName := ⟨RX6, "runQueues", "()I"⟩
abbrev cX6_settleFirst : ByteArray := prog_8_method_7_code
def yX6_settleFirst : MethodName := ⟨RX6, "settleFirst", "(II)I"⟩
abbrev cX6_mayMove : ByteArray := prog_8_method_8_code
def yX6_mayMove : MethodName := ⟨RX6, "mayMove", "(LMillstreamPayments$Payment;)Z"⟩
abbrev cX6_settleMost : ByteArray := prog_8_method_9_code
def yX6_settleMost : MethodName := ⟨RX6, "settleMost", "(II)I"⟩
abbrev cX6_nextToTakeOut : ByteArray := prog_8_method_10_code
def yX6_nextToTakeOut : MethodName := ⟨RX6, "nextToTakeOut", "(IZ)LMillstreamPayments$Payment;"⟩
abbrev cX6_lastInBatch : ByteArray := prog_8_method_11_code
def yX6_lastInBatch : MethodName := ⟨RX6, "lastInBatch", "(IIZ)LMillstreamPayments$Payment;"⟩
abbrev cX6_settleBatch : ByteArray := prog_8_method_12_code
def yX6_settleBatch : MethodName := ⟨RX6, "settleBatch", "()I"⟩
abbrev cX6_closeDay : ByteArray := prog_8_method_13_code
def yX6_closeDay : MethodName := ⟨RX6, "closeDay", "()I"⟩
abbrev cX6_giveBackWhatMayNotStay : ByteArray := prog_8_method_14_code
def yX6_giveBackWhatMayNotStay : MethodName := ⟨RX6, "giveBackWhatMayNotStay", "()V"⟩
abbrev cX6_chargeBanks : ByteArray := prog_8_method_15_code
def yX6_chargeBanks : MethodName := ⟨RX6, "chargeBanks", "()V"⟩
abbrev cX6_charge : ByteArray := prog_8_method_16_code
def yX6_charge : MethodName := ⟨RX6, "charge", "(IIJ)V"⟩
abbrev cX6_letWaitingEnter : ByteArray := prog_8_method_17_code
def yX6_letWaitingEnter : MethodName := ⟨RX6, "letWaitingEnter", "()V"⟩
def RX7 : String := "MillstreamPayments$Payment"
def TX7 : u_T := fun k => match k with
  | 0 => ("MillstreamPayments$Payment", "number", "I", true)
  | 1 => ("MillstreamPayments$Payment", "terms", "LMillstreamPayments$Terms;", true)
  | 2 => ("MillstreamPayments$Payment", "state", "I", false)
  | 3 => ("MillstreamPayments$Payment", "leg", "LMillstreamPayments$Payment;", false)
  | 4 => ("MillstreamPayments$Payment", "officer", "I", false)
  | 5 => ("MillstreamPayments$Payment", "isReleased", "Z", false)
  | 6 => ("MillstreamPayments$Payment", "finalDay", "I", false)
  | 7 => ("MillstreamPayments$Payment", "lastAnswerDay", "I", false)
  | _ => ("MillstreamPayments$Payment", "isAnswered", "Z", false)
def tyX7 : Nat → FieldType := fun k => match k with
  | 0 => .int
  | 1 => .object "MillstreamPayments$Terms"
  | 2 => .int
  | 3 => .object "MillstreamPayments$Payment"
  | 4 => .int
  | 5 => .boolean
  | 6 => .int
  | 7 => .int
  | _ => .boolean
abbrev wsX70 : List Cond := u_ws RX7 TX7 9
theorem nmX7 : ∀ a, a < 9 → ∀ b, b < 9 → a ≠ b → (TX7 a).2.1 ≠ (TX7 b).2.1 := by decide +kernel
theorem tyX7_ok : ∀ k, k < 9 → parseFieldDescriptor (TX7 k).2.2.1 = some (tyX7 k) := by decide +kernel
abbrev cX7_init : ByteArray := prog_9_method_1_code
def yX7_init : MethodName := ⟨RX7, "<init>", "(ILMillstreamPayments$Terms;)V"⟩
abbrev cX7_hasEnded : ByteArray := prog_9_method_2_code
def yX7_hasEnded : MethodName := ⟨RX7, "hasEnded", "()Z"⟩
abbrev cX7_isIn : ByteArray := prog_9_method_3_code
def yX7_isIn : MethodName := ⟨RX7, "isIn", "(II)Z"⟩
abbrev cX7_isBehind : ByteArray := prog_9_method_4_code
def yX7_isBehind : MethodName := ⟨RX7, "isBehind", "(LMillstreamPayments$Payment;)Z"⟩
abbrev cX7_canBeLegWith : ByteArray := prog_9_method_5_code
def yX7_canBeLegWith : MethodName := ⟨RX7, "canBeLegWith", "(LMillstreamPayments$Payment;)Z"⟩
abbrev cX7_giveBack : ByteArray := prog_9_method_6_code
def yX7_giveBack : MethodName := ⟨RX7, "giveBack", "()I"⟩
def RX8 : String := "MillstreamPayments$Register"
def TX8 : u_T := fun k => match k with
  | 0 => ("MillstreamPayments$Register", "all", "Ljava/util/ArrayList;", true)
  | _ => ("MillstreamPayments$Register", "paymentsOfMessages", "LMillstreamPayments$Row;", true)
def tyX8 : Nat → FieldType := fun k => match k with
  | 0 => .object "java/util/ArrayList"
  | _ => .object "MillstreamPayments$Row"
abbrev wsX80 : List Cond := u_ws RX8 TX8 2
theorem nmX8 : ∀ a, a < 2 → ∀ b, b < 2 → a ≠ b → (TX8 a).2.1 ≠ (TX8 b).2.1 := by decide +kernel
theorem tyX8_ok : ∀ k, k < 2 → parseFieldDescriptor (TX8 k).2.2.1 = some (tyX8 k) := by decide +kernel
abbrev cX8_init : ByteArray := prog_10_method_1_code
def yX8_init : MethodName := ⟨RX8, "<init>", "()V"⟩
abbrev cX8_count : ByteArray := prog_10_method_2_code
def yX8_count : MethodName := ⟨RX8, "count", "()I"⟩
abbrev cX8_isFull : ByteArray := prog_10_method_3_code
def yX8_isFull : MethodName := ⟨RX8, "isFull", "()Z"⟩
abbrev cX8_find : ByteArray := prog_10_method_4_code
def yX8_find : MethodName := ⟨RX8, "find", "(I)LMillstreamPayments$Payment;"⟩
abbrev cX8_open : ByteArray := prog_10_method_5_code
def yX8_open : MethodName := ⟨RX8, "open", "(LMillstreamPayments$Terms;)LMillstreamPayments$Payment;"⟩
abbrev cX8_toldBy : ByteArray := prog_10_method_6_code
def yX8_toldBy : MethodName := ⟨RX8, "toldBy", "(II)LMillstreamPayments$Payment;"⟩
abbrev cX8_keepMessage : ByteArray := prog_10_method_7_code
def yX8_keepMessage : MethodName := ⟨RX8, "keepMessage", "(III)V"⟩
abbrev cX8_nextQueued : ByteArray := prog_10_method_8_code
def yX8_nextQueued : MethodName := ⟨RX8, "nextQueued", "(IILMillstreamPayments$Payment;)LMillstreamPayments$Payment;"⟩
abbrev cX8_queuedAt : ByteArray := prog_10_method_9_code
def yX8_queuedAt : MethodName := ⟨RX8, "queuedAt", "(III)I"⟩
abbrev cX8_feesOf : ByteArray := prog_10_method_10_code
def yX8_feesOf : MethodName := ⟨RX8, "feesOf", "(III)I"⟩
def RX9 : String := "MillstreamPayments$Row"
def TX9 : u_T := fun k => match k with
  | _ => ("MillstreamPayments$Row", "cells", "[J", true)
def tyX9 : Nat → FieldType := fun k => match k with
  | _ => .array .long
abbrev wsX90 : List Cond := u_ws RX9 TX9 1
theorem nmX9 : ∀ a, a < 1 → ∀ b, b < 1 → a ≠ b → (TX9 a).2.1 ≠ (TX9 b).2.1 := by decide +kernel
theorem tyX9_ok : ∀ k, k < 1 → parseFieldDescriptor (TX9 k).2.2.1 = some (tyX9 k) := by decide +kernel
abbrev cX9_init : ByteArray := prog_11_method_1_code
def yX9_init : MethodName := ⟨RX9, "<init>", "(I)V"⟩
abbrev cX9_at : ByteArray := prog_11_method_2_code
def yX9_at : MethodName := ⟨RX9, "at", "(I)J"⟩
abbrev cX9_isSet : ByteArray := prog_11_method_3_code
def yX9_isSet : MethodName := ⟨RX9, "isSet", "(I)Z"⟩
abbrev cX9_put : ByteArray := prog_11_method_4_code
def yX9_put : MethodName := ⟨RX9, "put", "(IJ)V"⟩
abbrev cX9_add : ByteArray := prog_11_method_5_code
def yX9_add : MethodName := ⟨RX9, "add", "(IJ)V"⟩
abbrev cX9_mark : ByteArray := prog_11_method_6_code
def yX9_mark : MethodName := ⟨RX9, "mark", "(IZ)V"⟩
abbrev cX9_fill : ByteArray := prog_11_method_7_code
def yX9_fill : MethodName := ⟨RX9, "fill", "(J)V"⟩
def RX10 : String := "MillstreamPayments$Terms"
def TX10 : u_T := fun k => match k with
  | 0 => ("MillstreamPayments$Terms", "from", "I", true)
  | 1 => ("MillstreamPayments$Terms", "to", "I", true)
  | 2 => ("MillstreamPayments$Terms", "currency", "I", true)
  | 3 => ("MillstreamPayments$Terms", "amount", "I", true)
  | 4 => ("MillstreamPayments$Terms", "payee", "I", false)
  | 5 => ("MillstreamPayments$Terms", "rank", "I", false)
  | 6 => ("MillstreamPayments$Terms", "isReal", "Z", false)
  | 7 => ("MillstreamPayments$Terms", "day", "I", false)
  | _ => ("MillstreamPayments$Terms", "stays", "Z", false)
def tyX10 : Nat → FieldType := fun k => match k with
  | 0 => .int
  | 1 => .int
  | 2 => .int
  | 3 => .int
  | 4 => .int
  | 5 => .int
  | 6 => .boolean
  | 7 => .int
  | _ => .boolean
abbrev wsX100 : List Cond := u_ws RX10 TX10 9
theorem nmX10 : ∀ a, a < 9 → ∀ b, b < 9 → a ≠ b → (TX10 a).2.1 ≠ (TX10 b).2.1 := by decide +kernel
theorem tyX10_ok : ∀ k, k < 9 → parseFieldDescriptor (TX10 k).2.2.1 = some (tyX10 k) := by decide +kernel
abbrev cX10_init : ByteArray := prog_12_method_1_code
def yX10_init : MethodName := ⟨RX10, "<init>", "(IIII)V"⟩
abbrev cX10_arrange : ByteArray := prog_12_method_2_code
def yX10_arrange : MethodName := ⟨RX10, "arrange", "(IIZIZ)V"⟩
abbrev cX10_isLike : ByteArray := prog_12_method_3_code
def yX10_isLike : MethodName := ⟨RX10, "isLike", "(LMillstreamPayments$Terms;)Z"⟩
abbrev cX10_isWayBackOf : ByteArray := prog_12_method_4_code
def yX10_isWayBackOf : MethodName := ⟨RX10, "isWayBackOf", "(LMillstreamPayments$Terms;)Z"⟩
def RX11 : String := "MillstreamPayments"
def TX11 : u_T := fun k => match k with
  | _ => ("MillstreamPayments", "exchange", "LMillstreamPayments$Exchange;", true)
def tyX11 : Nat → FieldType := fun k => match k with
  | _ => .object "MillstreamPayments$Exchange"
abbrev wsX110 : List Cond := u_ws RX11 TX11 1
theorem nmX11 : ∀ a, a < 1 → ∀ b, b < 1 → a ≠ b → (TX11 a).2.1 ≠ (TX11 b).2.1 := by decide +kernel
theorem tyX11_ok : ∀ k, k < 1 → parseFieldDescriptor (TX11 k).2.2.1 = some (tyX11 k) := by decide +kernel
abbrev cX11_init : ByteArray := prog_1_method_1_code
def yX11_init : MethodName := ⟨RX11, "<init>", "()V"⟩
abbrev cX11_fund : ByteArray := prog_1_method_2_code
def yX11_fund : MethodName := ⟨RX11, "fund", "(III)J"⟩
abbrev cX11_line : ByteArray := prog_1_method_3_code
def yX11_line : MethodName := ⟨RX11, "line", "(III)I"⟩
abbrev cX11_limit : ByteArray := prog_1_method_4_code
def yX11_limit : MethodName := ⟨RX11, "limit", "(IIII)I"⟩
abbrev cX11_out : ByteArray := prog_1_method_5_code
def yX11_out : MethodName := ⟨RX11, "out", "(IZ)Z"⟩
abbrev cX11_holiday : ByteArray := prog_1_method_6_code
def yX11_holiday : MethodName := ⟨RX11, "holiday", "(IIZ)Z"⟩
abbrev cX11_list : ByteArray := prog_1_method_7_code
def yX11_list : MethodName := ⟨RX11, "list", "(IZ)I"⟩
abbrev cX11_send : ByteArray := prog_1_method_8_code
def yX11_send : MethodName := ⟨RX11, "send", "(IIIIIIIZIZ)I"⟩
abbrev cX11_doubles : ByteArray := prog_1_method_9_code
def yX11_doubles : MethodName := ⟨RX11, "doubles", "()I"⟩
abbrev cX11_join : ByteArray := prog_1_method_10_code
def yX11_join : MethodName := ⟨RX11, "join", "(II)V"⟩
abbrev cX11_withdraw : ByteArray := prog_1_method_11_code
def yX11_withdraw : MethodName := ⟨RX11, "withdraw", "(I)I"⟩
abbrev cX11_release : ByteArray := prog_1_method_12_code
def yX11_release : MethodName := ⟨RX11, "release", "(II)Z"⟩
abbrev cX11_refuse : ByteArray := prog_1_method_13_code
def yX11_refuse : MethodName := ⟨RX11, "refuse", "(I)I"⟩
abbrev cX11_offset : ByteArray := prog_1_method_14_code
def yX11_offset : MethodName := ⟨RX11, "offset", "(I)I"⟩
abbrev cX11_recall : ByteArray := prog_1_method_15_code
def yX11_recall : MethodName := ⟨RX11, "recall", "(I)I"⟩
abbrev cX11_answer : ByteArray := prog_1_method_16_code
def yX11_answer : MethodName := ⟨RX11, "answer", "(IZ)I"⟩
abbrev cX11_endDay : ByteArray := prog_1_method_17_code
def yX11_endDay : MethodName := ⟨RX11, "endDay", "()I"⟩
abbrev cX11_today : ByteArray := prog_1_method_18_code
def yX11_today : MethodName := ⟨RX11, "today", "()I"⟩
abbrev cX11_account : ByteArray := prog_1_method_19_code
def yX11_account : MethodName := ⟨RX11, "account", "(II)J"⟩
abbrev cX11_accountAnew : ByteArray := prog_1_method_20_code
def yX11_accountAnew : MethodName := ⟨RX11, "accountAnew", "(II)J"⟩
abbrev cX11_paid : ByteArray := prog_1_method_21_code
def yX11_paid : MethodName := ⟨RX11, "paid", "(III)J"⟩
abbrev cX11_payments : ByteArray := prog_1_method_22_code
def yX11_payments : MethodName := ⟨RX11, "payments", "()I"⟩
abbrev cX11_stateOf : ByteArray := prog_1_method_23_code
def yX11_stateOf : MethodName := ⟨RX11, "stateOf", "(I)I"⟩
abbrev cX11_queueAt : ByteArray := prog_1_method_24_code
def yX11_queueAt : MethodName := ⟨RX11, "queueAt", "(III)I"⟩
abbrev cX11_entries : ByteArray := prog_1_method_25_code
def yX11_entries : MethodName := ⟨RX11, "entries", "()I"⟩
abbrev cX11_entryAt : ByteArray := prog_1_method_26_code
def yX11_entryAt : MethodName := ⟨RX11, "entryAt", "(II)J"⟩
abbrev cX11_advice : ByteArray := prog_1_method_27_code
def yX11_advice : MethodName := ⟨RX11, "advice", "(I)I"⟩
abbrev cX11_again : ByteArray := prog_1_method_28_code
def yX11_again : MethodName := ⟨RX11, "again", "(II)I"⟩
abbrev cX11_needPlace : ByteArray := prog_1_method_29_code
def yX11_needPlace : MethodName := ⟨RX11, "needPlace", "(II)V"⟩
abbrev cX11_needRange : ByteArray := prog_1_method_30_code
def yX11_needRange : MethodName := ⟨RX11, "needRange", "(III)V"⟩
abbrev cX11_needTwoBanks : ByteArray := prog_1_method_31_code
def yX11_needTwoBanks : MethodName := ⟨RX11, "needTwoBanks", "(II)V"⟩
abbrev cX11_needState : ByteArray := prog_1_method_32_code
def yX11_needState : MethodName := ⟨RX11, "needState", "(Z)V"⟩
abbrev cX11_needPayment : ByteArray := prog_1_method_33_code
def yX11_needPayment : MethodName := ⟨RX11, "needPayment", "(I)LMillstreamPayments$Payment;"⟩
abbrev cX11_accountSlot : ByteArray := prog_1_method_34_code
def yX11_accountSlot : MethodName := ⟨RX11, "accountSlot", "(II)I"⟩
abbrev cX11_pairSlot : ByteArray := prog_1_method_35_code
def yX11_pairSlot : MethodName := ⟨RX11, "pairSlot", "(III)I"⟩
def RX12 : String := "MillstreamPaymentsModel"
def TX12 : u_T := fun k => match k with
  | _ => ("", "", "", false)
def tyX12 : Nat → FieldType := fun k => match k with
  | _ => .int
abbrev wsX120 : List Cond := u_ws RX12 TX12 0
theorem nmX12 : ∀ a, a < 0 → ∀ b, b < 0 → a ≠ b → (TX12 a).2.1 ≠ (TX12 b).2.1 := by decide +kernel
theorem tyX12_ok : ∀ k, k < 0 → parseFieldDescriptor (TX12 k).2.2.1 = some (tyX12 k) := by decide +kernel
def RJx145de : String := "java/io/Serializable"
def TJx145de : u_T := fun k => match k with
  | _ => ("", "", "", false)
def tyJx145de : Nat → FieldType := fun k => match k with
  | _ => .int
abbrev wsJx145de0 : List Cond := u_ws RJx145de TJx145de 0
theorem nmJx145de : ∀ a, a < 0 → ∀ b, b < 0 → a ≠ b → (TJx145de a).2.1 ≠ (TJx145de b).2.1 := by decide +kernel
theorem tyJx145de_ok : ∀ k, k < 0 → parseFieldDescriptor (TJx145de k).2.2.1 = some (tyJx145de k) := by decide +kernel
def RJx8e188 : String := "java/lang/Cloneable"
def TJx8e188 : u_T := fun k => match k with
  | _ => ("", "", "", false)
def tyJx8e188 : Nat → FieldType := fun k => match k with
  | _ => .int
abbrev wsJx8e1880 : List Cond := u_ws RJx8e188 TJx8e188 0
theorem nmJx8e188 : ∀ a, a < 0 → ∀ b, b < 0 → a ≠ b → (TJx8e188 a).2.1 ≠ (TJx8e188 b).2.1 := by decide +kernel
theorem tyJx8e188_ok : ∀ k, k < 0 → parseFieldDescriptor (TJx8e188 k).2.2.1 = some (tyJx8e188 k) := by decide +kernel
def RJxab1ab : String := "java/lang/Iterable"
def TJxab1ab : u_T := fun k => match k with
  | _ => ("", "", "", false)
def tyJxab1ab : Nat → FieldType := fun k => match k with
  | _ => .int
abbrev wsJxab1ab0 : List Cond := u_ws RJxab1ab TJxab1ab 0
theorem nmJxab1ab : ∀ a, a < 0 → ∀ b, b < 0 → a ≠ b → (TJxab1ab a).2.1 ≠ (TJxab1ab b).2.1 := by decide +kernel
theorem tyJxab1ab_ok : ∀ k, k < 0 → parseFieldDescriptor (TJxab1ab k).2.2.1 = some (tyJxab1ab k) := by decide +kernel
def RJ9 : String := "java/lang/Math"
def TJ9 : u_T := fun k => match k with
  | _ => ("", "", "", false)
def tyJ9 : Nat → FieldType := fun k => match k with
  | _ => .int
abbrev wsJ90 : List Cond := u_ws RJ9 TJ9 0
theorem nmJ9 : ∀ a, a < 0 → ∀ b, b < 0 → a ≠ b → (TJ9 a).2.1 ≠ (TJ9 b).2.1 := by decide +kernel
theorem tyJ9_ok : ∀ k, k < 0 → parseFieldDescriptor (TJ9 k).2.2.1 = some (tyJ9 k) := by decide +kernel
abbrev cJ9_max_7cf53 : ByteArray := prog_22_method_65_code
def yJ9_max_7cf53 : MethodName := ⟨RJ9, "max", "(II)I"⟩
abbrev cJ9_max_f86c9 : ByteArray := prog_22_method_66_code
def yJ9_max_f86c9 : MethodName := ⟨RJ9, "max", "(JJ)J"⟩
abbrev cJ9_min_7cf53 : ByteArray := prog_22_method_69_code
def yJ9_min_7cf53 : MethodName := ⟨RJ9, "min", "(II)I"⟩
def RJ0 : String := "java/lang/String"
def TJ0 : u_T := fun k => match k with
  | _ => ("", "", "", false)
def tyJ0 : Nat → FieldType := fun k => match k with
  | _ => .int
abbrev wsJ00 : List Cond := u_ws RJ0 TJ0 0
theorem nmJ0 : ∀ a, a < 0 → ∀ b, b < 0 → a ≠ b → (TJ0 a).2.1 ≠ (TJ0 b).2.1 := by decide +kernel
theorem tyJ0_ok : ∀ k, k < 0 → parseFieldDescriptor (TJ0 k).2.2.1 = some (tyJ0 k) := by decide +kernel
def RJ10 : String := "java/lang/System"
def TJ10 : u_T := fun k => match k with
  | _ => ("", "", "", false)
def tyJ10 : Nat → FieldType := fun k => match k with
  | _ => .int
abbrev wsJ100 : List Cond := u_ws RJ10 TJ10 0
theorem nmJ10 : ∀ a, a < 0 → ∀ b, b < 0 → a ≠ b → (TJ10 a).2.1 ≠ (TJ10 b).2.1 := by decide +kernel
theorem tyJ10_ok : ∀ k, k < 0 → parseFieldDescriptor (TJ10 k).2.2.1 = some (tyJ10 k) := by decide +kernel
def RJxa1e45 : String := "java/util/AbstractCollection"
def TJxa1e45 : u_T := fun k => match k with
  | _ => ("", "", "", false)
def tyJxa1e45 : Nat → FieldType := fun k => match k with
  | _ => .int
abbrev wsJxa1e450 : List Cond := u_ws RJxa1e45 TJxa1e45 0
theorem nmJxa1e45 : ∀ a, a < 0 → ∀ b, b < 0 → a ≠ b → (TJxa1e45 a).2.1 ≠ (TJxa1e45 b).2.1 := by decide +kernel
theorem tyJxa1e45_ok : ∀ k, k < 0 → parseFieldDescriptor (TJxa1e45 k).2.2.1 = some (tyJxa1e45 k) := by decide +kernel
abbrev cJxa1e45_init_da8c8 : ByteArray := prog_27_method_1_code
def yJxa1e45_init_da8c8 : MethodName := ⟨RJxa1e45, "<init>", "()V"⟩
def RJxc12de : String := "java/util/AbstractList"
def TJxc12de : u_T := fun k => match k with
  | _ => ("", "", "", false)
def tyJxc12de : Nat → FieldType := fun k => match k with
  | _ => .int
abbrev wsJxc12de0 : List Cond := u_ws RJxc12de TJxc12de 0
theorem nmJxc12de : ∀ a, a < 0 → ∀ b, b < 0 → a ≠ b → (TJxc12de a).2.1 ≠ (TJxc12de b).2.1 := by decide +kernel
theorem tyJxc12de_ok : ∀ k, k < 0 → parseFieldDescriptor (TJxc12de k).2.2.1 = some (tyJxc12de k) := by decide +kernel
abbrev cJxc12de_init_da8c8 : ByteArray := prog_28_method_1_code
def yJxc12de_init_da8c8 : MethodName := ⟨RJxc12de, "<init>", "()V"⟩
def RJx4a65c : String := "java/util/ArrayList"
def TJx4a65c : u_T := fun k => match k with
  | 0 => ("java/util/AbstractList", "modCount", "I", false)
  | 1 => ("java/util/ArrayList", "elementData", "[Ljava/lang/Object;", false)
  | _ => ("java/util/ArrayList", "size", "I", false)
def tyJx4a65c : Nat → FieldType := fun k => match k with
  | 0 => .int
  | 1 => .array (.object "java/lang/Object")
  | _ => .int
abbrev wsJx4a65c0 : List Cond := u_ws RJx4a65c TJx4a65c 3
theorem nmJx4a65c : ∀ a, a < 3 → ∀ b, b < 3 → a ≠ b → (TJx4a65c a).2.1 ≠ (TJx4a65c b).2.1 := by decide +kernel
theorem tyJx4a65c_ok : ∀ k, k < 3 → parseFieldDescriptor (TJx4a65c k).2.2.1 = some (tyJx4a65c k) := by decide +kernel
abbrev cJx4a65c_init_da8c8 : ByteArray := prog_29_method_2_code
def yJx4a65c_init_da8c8 : MethodName := ⟨RJx4a65c, "<init>", "()V"⟩
abbrev cJx4a65c_grow_92f84 : ByteArray := prog_29_method_6_code
def yJx4a65c_grow_92f84 : MethodName := ⟨RJx4a65c, "grow", "(I)[Ljava/lang/Object;"⟩
abbrev cJx4a65c_grow_d5877 : ByteArray := prog_29_method_7_code
def yJx4a65c_grow_d5877 : MethodName := ⟨RJx4a65c, "grow", "()[Ljava/lang/Object;"⟩
abbrev cJx4a65c_size_8abf5 : ByteArray := prog_29_method_8_code
def yJx4a65c_size_8abf5 : MethodName := ⟨RJx4a65c, "size", "()I"⟩
abbrev cJx4a65c_elementData_915e3 : ByteArray := prog_29_method_18_code
def yJx4a65c_elementData_915e3 : MethodName := ⟨RJx4a65c, "elementData", "(I)Ljava/lang/Object;"⟩
abbrev cJx4a65c_get_915e3 : ByteArray := prog_29_method_20_code
def yJx4a65c_get_915e3 : MethodName := ⟨RJx4a65c, "get", "(I)Ljava/lang/Object;"⟩
abbrev cJx4a65c_add_72be8 : ByteArray := prog_29_method_24_code
def yJx4a65c_add_72be8 : MethodName := ⟨RJx4a65c, "add", "(Ljava/lang/Object;[Ljava/lang/Object;I)V"⟩
abbrev cJx4a65c_add_9ea2d : ByteArray := prog_29_method_25_code
def yJx4a65c_add_9ea2d : MethodName := ⟨RJx4a65c, "add", "(Ljava/lang/Object;)Z"⟩
def RJ7 : String := "java/util/Arrays"
def TJ7 : u_T := fun k => match k with
  | _ => ("", "", "", false)
def tyJ7 : Nat → FieldType := fun k => match k with
  | _ => .int
abbrev wsJ70 : List Cond := u_ws RJ7 TJ7 0
theorem nmJ7 : ∀ a, a < 0 → ∀ b, b < 0 → a ≠ b → (TJ7 a).2.1 ≠ (TJ7 b).2.1 := by decide +kernel
theorem tyJ7_ok : ∀ k, k < 0 → parseFieldDescriptor (TJ7 k).2.2.1 = some (tyJ7 k) := by decide +kernel
abbrev cJ7_copyOf_1904c : ByteArray := prog_30_method_119_code
def yJ7_copyOf_1904c : MethodName := ⟨RJ7, "copyOf", "([Ljava/lang/Object;I)[Ljava/lang/Object;"⟩
abbrev cJ7_copyOf_6403c : ByteArray := prog_30_method_120_code
def yJ7_copyOf_6403c : MethodName := ⟨RJ7, "copyOf", "([Ljava/lang/Object;ILjava/lang/Class;)[Ljava/lang/Object;"⟩
def RJx5ef63 : String := "java/util/Collection"
def TJx5ef63 : u_T := fun k => match k with
  | _ => ("", "", "", false)
def tyJx5ef63 : Nat → FieldType := fun k => match k with
  | _ => .int
abbrev wsJx5ef630 : List Cond := u_ws RJx5ef63 TJx5ef63 0
theorem nmJx5ef63 : ∀ a, a < 0 → ∀ b, b < 0 → a ≠ b → (TJx5ef63 a).2.1 ≠ (TJx5ef63 b).2.1 := by decide +kernel
theorem tyJx5ef63_ok : ∀ k, k < 0 → parseFieldDescriptor (TJx5ef63 k).2.2.1 = some (tyJx5ef63 k) := by decide +kernel
def RJxbd725 : String := "java/util/List"
def TJxbd725 : u_T := fun k => match k with
  | _ => ("", "", "", false)
def tyJxbd725 : Nat → FieldType := fun k => match k with
  | _ => .int
abbrev wsJxbd7250 : List Cond := u_ws RJxbd725 TJxbd725 0
theorem nmJxbd725 : ∀ a, a < 0 → ∀ b, b < 0 → a ≠ b → (TJxbd725 a).2.1 ≠ (TJxbd725 b).2.1 := by decide +kernel
theorem tyJxbd725_ok : ∀ k, k < 0 → parseFieldDescriptor (TJxbd725 k).2.2.1 = some (tyJxbd725 k) := by decide +kernel
def RJ15 : String := "java/util/Objects"
def TJ15 : u_T := fun k => match k with
  | _ => ("", "", "", false)
def tyJ15 : Nat → FieldType := fun k => match k with
  | _ => .int
abbrev wsJ150 : List Cond := u_ws RJ15 TJ15 0
theorem nmJ15 : ∀ a, a < 0 → ∀ b, b < 0 → a ≠ b → (TJ15 a).2.1 ≠ (TJ15 b).2.1 := by decide +kernel
theorem tyJ15_ok : ∀ k, k < 0 → parseFieldDescriptor (TJ15 k).2.2.1 = some (tyJ15 k) := by decide +kernel
abbrev cJ15_checkIndex_7cf53 : ByteArray := prog_33_method_17_code
def yJ15_checkIndex_7cf53 : MethodName := ⟨RJ15, "checkIndex", "(II)I"⟩
def RJxf0a74 : String := "java/util/RandomAccess"
def TJxf0a74 : u_T := fun k => match k with
  | _ => ("", "", "", false)
def tyJxf0a74 : Nat → FieldType := fun k => match k with
  | _ => .int
abbrev wsJxf0a740 : List Cond := u_ws RJxf0a74 TJxf0a74 0
theorem nmJxf0a74 : ∀ a, a < 0 → ∀ b, b < 0 → a ≠ b → (TJxf0a74 a).2.1 ≠ (TJxf0a74 b).2.1 := by decide +kernel
theorem tyJxf0a74_ok : ∀ k, k < 0 → parseFieldDescriptor (TJxf0a74 k).2.2.1 = some (tyJxf0a74 k) := by decide +kernel
def RJxa66e6 : String := "java/util/SequencedCollection"
def TJxa66e6 : u_T := fun k => match k with
  | _ => ("", "", "", false)
def tyJxa66e6 : Nat → FieldType := fun k => match k with
  | _ => .int
abbrev wsJxa66e60 : List Cond := u_ws RJxa66e6 TJxa66e6 0
theorem nmJxa66e6 : ∀ a, a < 0 → ∀ b, b < 0 → a ≠ b → (TJxa66e6 a).2.1 ≠ (TJxa66e6 b).2.1 := by decide +kernel
theorem tyJxa66e6_ok : ∀ k, k < 0 → parseFieldDescriptor (TJxa66e6 k).2.2.1 = some (tyJxa66e6 k) := by decide +kernel
def RJ8 : String := "jdk/internal/util/ArraysSupport"
def TJ8 : u_T := fun k => match k with
  | _ => ("", "", "", false)
def tyJ8 : Nat → FieldType := fun k => match k with
  | _ => .int
abbrev wsJ80 : List Cond := u_ws RJ8 TJ8 0
theorem nmJ8 : ∀ a, a < 0 → ∀ b, b < 0 → a ≠ b → (TJ8 a).2.1 ≠ (TJ8 b).2.1 := by decide +kernel
theorem tyJ8_ok : ∀ k, k < 0 → parseFieldDescriptor (TJ8 k).2.2.1 = some (tyJ8 k) := by decide +kernel
abbrev cJ8_newLength_cabcc : ByteArray := prog_36_method_27_code
def yJ8_newLength_cabcc : MethodName := ⟨RJ8, "newLength", "(III)I"⟩
abbrev cJ8_hugeLength_7cf53 : ByteArray := prog_36_method_28_code
def yJ8_hugeLength_7cf53 : MethodName := ⟨RJ8, "hugeLength", "(II)I"⟩
def RJ3 : String := "jdk/internal/util/Preconditions"
def TJ3 : u_T := fun k => match k with
  | _ => ("", "", "", false)
def tyJ3 : Nat → FieldType := fun k => match k with
  | _ => .int
abbrev wsJ30 : List Cond := u_ws RJ3 TJ3 0
theorem nmJ3 : ∀ a, a < 0 → ∀ b, b < 0 → a ≠ b → (TJ3 a).2.1 ≠ (TJ3 b).2.1 := by decide +kernel
theorem tyJ3_ok : ∀ k, k < 0 → parseFieldDescriptor (TJ3 k).2.2.1 = some (tyJ3 k) := by decide +kernel
abbrev cJ3_checkIndex_8e157 : ByteArray := prog_37_method_11_code
def yJ3_checkIndex_8e157 : MethodName := ⟨RJ3, "checkIndex", "(IILjava/util/function/BiFunction;)I"⟩
def RL : String := "MillstreamPaymentsLaw"
abbrev cL_at : ByteArray := method_2_code
def yL_at : MethodName := ⟨RL, "at", "([II)I"⟩
abbrev cL_low : ByteArray := method_3_code
def yL_low : MethodName := ⟨RL, "low", "(II)I"⟩
abbrev cL_line : ByteArray := method_4_code
def yL_line : MethodName := ⟨RL, "line", "(LMillstreamPayments;III)I"⟩
abbrev cL_limit : ByteArray := method_5_code
def yL_limit : MethodName := ⟨RL, "limit", "(LMillstreamPayments;IIII)I"⟩
abbrev cL_out : ByteArray := method_6_code
def yL_out : MethodName := ⟨RL, "out", "(LMillstreamPayments;IZ)I"⟩
abbrev cL_holiday : ByteArray := method_7_code
def yL_holiday : MethodName := ⟨RL, "holiday", "(LMillstreamPayments;IIZ)I"⟩
abbrev cL_list : ByteArray := method_8_code
def yL_list : MethodName := ⟨RL, "list", "(LMillstreamPayments;IZ)I"⟩
abbrev cL_send : ByteArray := method_9_code
def yL_send : MethodName := ⟨RL, "send", "(LMillstreamPayments;IIIIIIIZIZ)I"⟩
abbrev cL_join : ByteArray := method_10_code
def yL_join : MethodName := ⟨RL, "join", "(LMillstreamPayments;II)I"⟩
abbrev cL_withdraw : ByteArray := method_11_code
def yL_withdraw : MethodName := ⟨RL, "withdraw", "(LMillstreamPayments;I)I"⟩
abbrev cL_release : ByteArray := method_12_code
def yL_release : MethodName := ⟨RL, "release", "(LMillstreamPayments;II)I"⟩
abbrev cL_refuse : ByteArray := method_13_code
def yL_refuse : MethodName := ⟨RL, "refuse", "(LMillstreamPayments;I)I"⟩
abbrev cL_offset : ByteArray := method_14_code
def yL_offset : MethodName := ⟨RL, "offset", "(LMillstreamPayments;I)I"⟩
abbrev cL_recall : ByteArray := method_15_code
def yL_recall : MethodName := ⟨RL, "recall", "(LMillstreamPayments;I)I"⟩
abbrev cL_answer : ByteArray := method_16_code
def yL_answer : MethodName := ⟨RL, "answer", "(LMillstreamPayments;IZ)I"⟩
abbrev cL_endDay : ByteArray := method_17_code
def yL_endDay : MethodName := ⟨RL, "endDay", "(LMillstreamPayments;)I"⟩
abbrev cL_stateOf : ByteArray := method_18_code
def yL_stateOf : MethodName := ⟨RL, "stateOf", "(LMillstreamPayments;I)I"⟩
abbrev cL_queueAt : ByteArray := method_19_code
def yL_queueAt : MethodName := ⟨RL, "queueAt", "(LMillstreamPayments;III)I"⟩
abbrev cL_advice : ByteArray := method_20_code
def yL_advice : MethodName := ⟨RL, "advice", "(LMillstreamPayments;I)I"⟩
abbrev cL_again : ByteArray := method_21_code
def yL_again : MethodName := ⟨RL, "again", "(LMillstreamPayments;II)I"⟩
abbrev cL_fund : ByteArray := method_22_code
def yL_fund : MethodName := ⟨RL, "fund", "(LMillstreamPayments;III)J"⟩
abbrev cL_account : ByteArray := method_23_code
def yL_account : MethodName := ⟨RL, "account", "(LMillstreamPayments;II)J"⟩
abbrev cL_accountAnew : ByteArray := method_24_code
def yL_accountAnew : MethodName := ⟨RL, "accountAnew", "(LMillstreamPayments;II)J"⟩
abbrev cL_paid : ByteArray := method_25_code
def yL_paid : MethodName := ⟨RL, "paid", "(LMillstreamPayments;III)J"⟩
abbrev cL_entryAt : ByteArray := method_26_code
def yL_entryAt : MethodName := ⟨RL, "entryAt", "(LMillstreamPayments;II)J"⟩
abbrev cL_sends : ByteArray := method_27_code
def yL_sends : MethodName := ⟨RL, "sends", "(LMillstreamPayments;[I[I[I[III)Z"⟩
abbrev cL_changes : ByteArray := method_28_code
def yL_changes : MethodName := ⟨RL, "changes", "(LMillstreamPayments;[I[JII)Z"⟩
abbrev cL_goesOn : ByteArray := method_29_code
def yL_goesOn : MethodName := ⟨RL, "goesOn", "(LMillstreamPayments;[I[I[I[III)Z"⟩
abbrev cL_isBook : ByteArray := method_30_code
def yL_isBook : MethodName := ⟨RL, "isBook", "(LMillstreamPayments;[I[I[I[I[I[J)Z"⟩
abbrev cL_areQueues : ByteArray := method_31_code
def yL_areQueues : MethodName := ⟨RL, "areQueues", "(LMillstreamPayments;[I[I[I[II)Z"⟩
abbrev cL_law : ByteArray := code
def yL_law : MethodName := ⟨RL, "law", "([I)Z"⟩
abbrev vwCl : List vw_C := [(RJx4a65c, TJx4a65c, 3), (RX0, TX0, 5), (RX1, TX1, 4), (RX2, TX2, 3), (RX3, TX3, 1), (RX4, TX4, 2), (RX5, TX5, 5), (RX6, TX6, 8), (RX7, TX7, 9), (RX8, TX8, 2), (RX9, TX9, 1), (RX10, TX10, 9), (RX11, TX11, 1)]
end
section
theorem gd_in {B big ws : List Cond} (hB : ∀ w ∈ B, w ∈ big) (hg : B.all goodWord = true) (h : ∀ w ∈ ws, w ∈ B) : GoodIn big ws := fun w hw => ⟨hB w (h w hw), good_of_word (List.all_eq_true.mp hg w (h w hw))⟩
theorem gd_V {B : List Cond} {l i s n c : Cond} (h1 : l ∈ B) (h2 : i ∈ B) (h3 : s ∈ B) (h4 : n ∈ B) (h5 : c ∈ B) : ∀ w ∈ ([l, i, s, n] ++ (c :: B) : List Cond), w ∈ B := by
  intro w hw
  simp only [List.cons_append, List.nil_append, List.mem_cons] at hw
  rcases hw with rfl | rfl | rfl | rfl | rfl | h <;> assumption
theorem gd_S {B : List Cond} {l s n c : Cond} (h1 : l ∈ B) (h3 : s ∈ B) (h4 : n ∈ B) (h5 : c ∈ B) : ∀ w ∈ ([l, s, n] ++ (c :: B) : List Cond), w ∈ B := by
  intro w hw
  simp only [List.cons_append, List.nil_append, List.mem_cons] at hw
  rcases hw with rfl | rfl | rfl | rfl | h <;> assumption
end
section
def wsC_0 : List Cond := [.methodLink RJxa1e45 1 objectInit, .instanceMethod objectInit, .code objectInit ⟨#[0xb1]⟩ 1 none, .fieldLink RJxc12de 7 "java/util/AbstractList" "modCount" "I", .methodLink RJxc12de 1 yJxa1e45_init_da8c8, .instanceMethod yJxa1e45_init_da8c8, .initialized RJxa1e45, .code yJxa1e45_init_da8c8 cJxa1e45_init_da8c8 1 none, .fieldLink RJx4a65c 39 "java/util/ArrayList" "DEFAULTCAPACITY_EMPTY_ELEMENTDATA" "[Ljava/lang/Object;", .fieldLink RJx4a65c 9 "java/util/ArrayList" "elementData" "[Ljava/lang/Object;", .methodLink RJx4a65c 1 yJxc12de_init_da8c8, .instanceMethod yJxc12de_init_da8c8, .initialized RJxc12de, .code yJxc12de_init_da8c8 cJxc12de_init_da8c8 1 none, .methodLink RX3 3 objectInit, .classLink RX3 9 RJx4a65c, .instantiable RJx4a65c 3, .initialized RJx4a65c, .fieldLink RX3 12 "MillstreamPayments$Book" "kept" "Ljava/util/ArrayList;", .methodLink RX3 11 yJx4a65c_init_da8c8, .instanceMethod yJx4a65c_init_da8c8, .code yJx4a65c_init_da8c8 cJx4a65c_init_da8c8 1 none, .methodLink RX9 1 objectInit, .methodLink RX9 7 Lib.Math.max.name, .static Lib.Math.max.name]
def wsC_1 : List Cond := [.initialized "java/lang/Math", .code Lib.Math.max.name Lib.Math.max.code 2 (some .int), .arrayClass .long, .fieldLink RX9 13 "MillstreamPayments$Row" "cells" "[J", .methodLink RX0 3 objectInit, .classLink RX0 9 RX3, .instantiable RX3 1, .initialized RX3, .fieldLink RX0 12 "MillstreamPayments$Accounts" "book" "LMillstreamPayments$Book;", .classLink RX0 18 RX9, .instantiable RX9 1, .initialized RX9, .fieldLink RX0 23 "MillstreamPayments$Accounts" "balances" "LMillstreamPayments$Row;", .fieldLink RX0 27 "MillstreamPayments$Accounts" "lines" "LMillstreamPayments$Row;", .fieldLink RX0 30 "MillstreamPayments$Accounts" "paidToday" "LMillstreamPayments$Row;", .fieldLink RX0 33 "MillstreamPayments$Accounts" "limits" "LMillstreamPayments$Row;", .constantLong RX0 36 (-1), .instanceMethod yX3_init, .code yX3_init cX3_init 1 none, .methodLink RX0 20 yX9_init, .instanceMethod yX9_init, .code yX9_init cX9_init 2 none, .methodLink RX0 38 yX9_fill, .instanceMethod yX9_fill, .selects RX9 yX9_fill yX9_fill]
def wsC_2 : List Cond := [.code yX9_fill cX9_fill 4 none, .static yX11_accountSlot, .initialized RX11, .code yX11_accountSlot cX11_accountSlot 2 (some .int), .methodLink RX0 46 yX9_at, .instanceMethod yX9_at, .selects RX9 yX9_at yX9_at, .code yX9_at cX9_at 2 (some .long), .methodLink RX0 50 yX9_put, .instanceMethod yX9_put, .selects RX9 yX9_put yX9_put, .code yX9_put cX9_put 4 none, .methodLink RX5 1 objectInit, .fieldLink RX5 7 "MillstreamPayments$Entry" "from" "I", .fieldLink RX5 13 "MillstreamPayments$Entry" "to" "I", .fieldLink RX5 16 "MillstreamPayments$Entry" "currency" "I", .fieldLink RX5 19 "MillstreamPayments$Entry" "amount" "J", .fieldLink RX5 23 "MillstreamPayments$Entry" "payment" "I", .fieldLink RJx4a65c 48 "java/util/ArrayList" "size" "I", .constant RJ8 200 (2147483639), .methodLink RJ8 194 Lib.Math.max.name, .methodLink RJ8 201 yJ8_hugeLength_7cf53, .static yJ8_hugeLength_7cf53, .initialized RJ8, .code yJ8_hugeLength_7cf53 cJ8_hugeLength_7cf53 3 (some .int)]
def wsC_3 : List Cond := [.classLink RJ7 110 "[Ljava/lang/Object;", .classLink RJ7 2 "java/lang/Object", .methodLink RJ7 304 Lib.Math.min.name, .static Lib.Math.min.name, .code Lib.Math.min.name Lib.Math.min.code 2 (some .int), .methodLink RJ7 150 arraycopyName, .native arraycopyName, .static arraycopyName, .initialized "java/lang/System", .methodLink RJ7 86 ⟨"java/lang/Object", "getClass", "()Ljava/lang/Class;"⟩, .selects "[Ljava/lang/Object;" ⟨"java/lang/Object", "getClass", "()Ljava/lang/Class;"⟩ ⟨"java/lang/Object", "getClass", "()Ljava/lang/Class;"⟩, .instanceMethod ⟨"java/lang/Object", "getClass", "()Ljava/lang/Class;"⟩, .native ⟨"java/lang/Object", "getClass", "()Ljava/lang/Class;"⟩, .methodLink RJ7 300 yJ7_copyOf_6403c, .static yJ7_copyOf_6403c, .initialized RJ7, .code yJ7_copyOf_6403c cJ7_copyOf_6403c 4 (some (.array (.object "java/lang/Object"))), .methodLink RJx4a65c 79 Lib.Math.max.name, .classLink RJx4a65c 7 "java/lang/Object", .methodLink RJx4a65c 73 yJ8_newLength_cabcc, .static yJ8_newLength_cabcc, .code yJ8_newLength_cabcc cJ8_newLength_cabcc 4 (some .int), .methodLink RJx4a65c 66 yJ7_copyOf_1904c, .static yJ7_copyOf_1904c, .code yJ7_copyOf_1904c cJ7_copyOf_1904c 2 (some (.array (.object "java/lang/Object")))]
def wsC_4 : List Cond := [.methodLink RJx4a65c 69 yJx4a65c_grow_92f84, .instanceMethod yJx4a65c_grow_92f84, .selects RJx4a65c yJx4a65c_grow_92f84 yJx4a65c_grow_92f84, .code yJx4a65c_grow_92f84 cJx4a65c_grow_92f84 4 (some (.array (.object "java/lang/Object"))), .methodLink RJx4a65c 129 yJx4a65c_grow_d5877, .instanceMethod yJx4a65c_grow_d5877, .selects RJx4a65c yJx4a65c_grow_d5877 yJx4a65c_grow_d5877, .code yJx4a65c_grow_d5877 cJx4a65c_grow_d5877 1 (some (.array (.object "java/lang/Object"))), .fieldLink RJx4a65c 63 "java/util/ArrayList" "modCount" "I", .sameField "java/util/ArrayList" "java/util/AbstractList" "modCount" "I", .methodLink RJx4a65c 131 yJx4a65c_add_72be8, .instanceMethod yJx4a65c_add_72be8, .selects RJx4a65c yJx4a65c_add_72be8 yJx4a65c_add_72be8, .code yJx4a65c_add_72be8 cJx4a65c_add_72be8 4 none, .methodLink RX3 18 yJx4a65c_size_8abf5, .instanceMethod yJx4a65c_size_8abf5, .selects RJx4a65c yJx4a65c_size_8abf5 yJx4a65c_size_8abf5, .code yJx4a65c_size_8abf5 cJx4a65c_size_8abf5 1 (some .int), .methodLink RX3 28 yJx4a65c_add_9ea2d, .instanceMethod yJx4a65c_add_9ea2d, .selects RJx4a65c yJx4a65c_add_9ea2d yJx4a65c_add_9ea2d, .code yJx4a65c_add_9ea2d cJx4a65c_add_9ea2d 2 (some .boolean), .classLink RX0 57 RX5, .instantiable RX5 5, .initialized RX5]
def wsC_5 : List Cond := [.methodLink RX0 54 yX9_add, .instanceMethod yX9_add, .selects RX9 yX9_add yX9_add, .code yX9_add cX9_add 4 none, .methodLink RX0 59 yX5_init, .instanceMethod yX5_init, .code yX5_init cX5_init 7 none, .methodLink RX0 62 yX3_keep, .instanceMethod yX3_keep, .selects RX3 yX3_keep yX3_keep, .code yX3_keep cX3_keep 2 none, .fieldLink RX0 66 "MillstreamPayments$Terms" "from" "I", .fieldLink RX0 72 "MillstreamPayments$Terms" "to" "I", .fieldLink RX0 75 "MillstreamPayments$Terms" "currency" "I", .fieldLink RX0 78 "MillstreamPayments$Terms" "amount" "I", .methodLink RX0 81 yX0_move, .instanceMethod yX0_move, .selects RX0 yX0_move yX0_move, .initialized RX0, .code yX0_move cX0_move 7 none, .static yX11_pairSlot, .code yX11_pairSlot cX11_pairSlot 3 (some .int), .methodLink RX1 3 objectInit, .classLink RX1 9 RX9, .fieldLink RX1 14 "MillstreamPayments$Advices" "told" "LMillstreamPayments$Row;"]
def wsC_6 : List Cond := [.fieldLink RX1 20 "MillstreamPayments$Advices" "counts" "LMillstreamPayments$Row;", .fieldLink RX1 23 "MillstreamPayments$Advices" "taken" "LMillstreamPayments$Row;", .fieldLink RX1 26 "MillstreamPayments$Advices" "most" "LMillstreamPayments$Row;", .methodLink RX1 11 yX9_init, .constantLong RX1 33 (60), .methodLink RX1 29 yX9_at, .methodLink RX1 35 yX9_put, .methodLink RX1 39 yX9_add, .methodLink RX1 42 Lib.MathLoose.max_long.x, .static Lib.MathLoose.max_long.x, .code Lib.MathLoose.max_long.x Lib.MathLoose.max_long.code 4 (some .long), .methodLink RX2 3 objectInit, .classLink RX2 9 RX9, .fieldLink RX2 14 "MillstreamPayments$Batch" "members" "LMillstreamPayments$Row;", .fieldLink RX2 20 "MillstreamPayments$Batch" "changes" "LMillstreamPayments$Row;", .fieldLink RX2 23 "MillstreamPayments$Batch" "flows" "LMillstreamPayments$Row;", .methodLink RX2 11 yX9_init, .methodLink RX2 26 yX9_fill, .fieldLink RX2 30 "MillstreamPayments$Payment" "number" "I", .methodLink RX2 36 yX9_isSet, .instanceMethod yX9_isSet, .selects RX9 yX9_isSet yX9_isSet, .code yX9_isSet cX9_isSet 2 (some .boolean), .methodLink RX9 19 yX9_put, .fieldLink RX2 57 "MillstreamPayments$Terms" "from" "I"]
def wsC_7 : List Cond := [.fieldLink RX2 60 "MillstreamPayments$Terms" "currency" "I", .fieldLink RX2 71 "MillstreamPayments$Terms" "to" "I", .methodLink RX2 67 yX9_add, .fieldLink RX2 44 "MillstreamPayments$Payment" "terms" "LMillstreamPayments$Terms;", .fieldLink RX2 48 "MillstreamPayments$Terms" "amount" "I", .methodLink RX2 40 yX9_mark, .instanceMethod yX9_mark, .selects RX9 yX9_mark yX9_mark, .code yX9_mark cX9_mark 3 none, .methodLink RX2 53 yX2_count, .instanceMethod yX2_count, .selects RX2 yX2_count yX2_count, .initialized RX2, .code yX2_count cX2_count 4 none, .methodLink RX2 78 yX9_at, .methodLink RX2 82 yX0_isTooLowBy, .instanceMethod yX0_isTooLowBy, .selects RX0 yX0_isTooLowBy yX0_isTooLowBy, .code yX0_isTooLowBy cX0_isTooLowBy 4 (some .boolean), .methodLink RX2 88 yX0_isPassedBy, .instanceMethod yX0_isPassedBy, .selects RX0 yX0_isPassedBy yX0_isPassedBy, .code yX0_isPassedBy cX0_isPassedBy 6 (some .boolean), .methodLink RX2 91 yX2_lowestTooLow, .instanceMethod yX2_lowestTooLow]
def wsC_8 : List Cond := [.selects RX2 yX2_lowestTooLow yX2_lowestTooLow, .code yX2_lowestTooLow cX2_lowestTooLow 5 (some .int), .methodLink RX2 95 yX2_passesLimit, .instanceMethod yX2_passesLimit, .selects RX2 yX2_passesLimit yX2_passesLimit, .code yX2_passesLimit cX2_passesLimit 6 (some .boolean), .methodLink RJ15 105 yJ3_checkIndex_8e157, .static yJ3_checkIndex_8e157, .initialized RJ3, .code yJ3_checkIndex_8e157 cJ3_checkIndex_8e157 3 (some .int), .methodLink RJx4a65c 118 yJ15_checkIndex_7cf53, .static yJ15_checkIndex_7cf53, .initialized RJ15, .code yJ15_checkIndex_7cf53 cJ15_checkIndex_7cf53 2 (some .int), .methodLink RJx4a65c 123 yJx4a65c_elementData_915e3, .instanceMethod yJx4a65c_elementData_915e3, .selects RJx4a65c yJx4a65c_elementData_915e3 yJx4a65c_elementData_915e3, .code yJx4a65c_elementData_915e3 cJx4a65c_elementData_915e3 2 (some (.object "java/lang/Object")), .classLink RX3 26 "MillstreamPayments$Entry", .methodLink RX3 22 yJx4a65c_get_915e3, .instanceMethod yJx4a65c_get_915e3, .selects RJx4a65c yJx4a65c_get_915e3 yJx4a65c_get_915e3, .code yJx4a65c_get_915e3 cJx4a65c_get_915e3 2 (some (.object "java/lang/Object")), .fieldLink RX3 32 "MillstreamPayments$Entry" "currency" "I", .fieldLink RX3 36 "MillstreamPayments$Entry" "to" "I"]
def wsC_9 : List Cond := [.fieldLink RX3 39 "MillstreamPayments$Entry" "amount" "J", .fieldLink RX3 43 "MillstreamPayments$Entry" "from" "I", .methodLink RX4 3 objectInit, .classLink RX4 9 RX9, .fieldLink RX4 14 "MillstreamPayments$Calendar" "holidays" "LMillstreamPayments$Row;", .methodLink RX4 11 yX9_init, .methodLink RX4 20 yX9_mark, .methodLink RX4 24 yX9_isSet, .fieldLink RX4 28 "MillstreamPayments$Calendar" "day" "I", .methodLink RX4 32 yX4_isOpen, .instanceMethod yX4_isOpen, .selects RX4 yX4_isOpen yX4_isOpen, .initialized RX4, .code yX4_isOpen cX4_isOpen 4 (some .boolean), .methodLink RX8 3 objectInit, .classLink RX8 9 RJx4a65c, .fieldLink RX8 12 "MillstreamPayments$Register" "all" "Ljava/util/ArrayList;", .classLink RX8 18 RX9, .fieldLink RX8 23 "MillstreamPayments$Register" "paymentsOfMessages" "LMillstreamPayments$Row;", .constantLong RX8 27 (-1), .methodLink RX8 11 yJx4a65c_init_da8c8, .methodLink RX8 20 yX9_init, .methodLink RX8 29 yX9_fill, .methodLink RX6 3 objectInit, .classLink RX6 9 RX4]
def wsC_10 : List Cond := [.instantiable RX4 2, .fieldLink RX6 12 "MillstreamPayments$Exchange" "calendar" "LMillstreamPayments$Calendar;", .classLink RX6 18 RX0, .instantiable RX0 5, .fieldLink RX6 21 "MillstreamPayments$Exchange" "accounts" "LMillstreamPayments$Accounts;", .classLink RX6 25 RX8, .instantiable RX8 2, .initialized RX8, .fieldLink RX6 28 "MillstreamPayments$Exchange" "register" "LMillstreamPayments$Register;", .classLink RX6 32 RX1, .instantiable RX1 4, .initialized RX1, .fieldLink RX6 35 "MillstreamPayments$Exchange" "advices" "LMillstreamPayments$Advices;", .classLink RX6 39 RX9, .fieldLink RX6 44 "MillstreamPayments$Exchange" "outages" "LMillstreamPayments$Row;", .fieldLink RX6 48 "MillstreamPayments$Exchange" "listed" "LMillstreamPayments$Row;", .classLink RX6 51 RX2, .instantiable RX2 3, .fieldLink RX6 54 "MillstreamPayments$Exchange" "batch" "LMillstreamPayments$Batch;", .instanceMethod yX4_init, .code yX4_init cX4_init 1 none, .methodLink RX6 20 yX0_init, .instanceMethod yX0_init, .code yX0_init cX0_init 1 none, .methodLink RX6 27 yX8_init]
def wsC_11 : List Cond := [.instanceMethod yX8_init, .code yX8_init cX8_init 1 none, .instanceMethod yX1_init, .code yX1_init cX1_init 1 none, .methodLink RX6 41 yX9_init, .instanceMethod yX2_init, .code yX2_init cX2_init 1 none, .methodLink RX7 3 objectInit, .fieldLink RX7 9 "MillstreamPayments$Payment" "state" "I", .fieldLink RX7 15 "MillstreamPayments$Payment" "officer" "I", .fieldLink RX7 18 "MillstreamPayments$Payment" "finalDay" "I", .fieldLink RX7 21 "MillstreamPayments$Payment" "lastAnswerDay" "I", .fieldLink RX7 24 "MillstreamPayments$Payment" "number" "I", .fieldLink RX7 27 "MillstreamPayments$Payment" "terms" "LMillstreamPayments$Terms;", .classLink RX8 41 RX7, .instantiable RX7 9, .initialized RX7, .methodLink RX8 33 yJx4a65c_size_8abf5, .methodLink RX8 43 yX7_init, .instanceMethod yX7_init, .code yX7_init cX7_init 3 none, .methodLink RX8 46 yJx4a65c_add_9ea2d, .fieldLink RX6 101 "MillstreamPayments$Payment" "terms" "LMillstreamPayments$Terms;", .fieldLink RX6 105 "MillstreamPayments$Terms" "payee" "I", .fieldLink RX6 111 "MillstreamPayments$Payment" "isReleased" "Z"]
def wsC_12 : List Cond := [.fieldLink RX6 115 "MillstreamPayments$Payment" "state" "I", .fieldLink RX6 118 "MillstreamPayments$Terms" "isReal" "Z", .methodLink RX6 108 yX9_isSet, .fieldLink RX6 62 "MillstreamPayments$Terms" "day" "I", .fieldLink RX6 68 "MillstreamPayments$Calendar" "day" "I", .fieldLink RX6 69 "MillstreamPayments$Terms" "currency" "I", .fieldLink RX6 80 "MillstreamPayments$Payment" "number" "I", .methodLink RX6 58 yX8_open, .instanceMethod yX8_open, .selects RX8 yX8_open yX8_open, .code yX8_open cX8_open 3 (some (.object "MillstreamPayments$Payment")), .methodLink RX6 72 yX4_isOpenToday, .instanceMethod yX4_isOpenToday, .selects RX4 yX4_isOpenToday yX4_isOpenToday, .code yX4_isOpenToday cX4_isOpenToday 2 (some .boolean), .methodLink RX6 76 yX6_letEnter, .instanceMethod yX6_letEnter, .selects RX6 yX6_letEnter yX6_letEnter, .initialized RX6, .code yX6_letEnter cX6_letEnter 2 none, .methodLink RX10 1 objectInit, .fieldLink RX10 7 "MillstreamPayments$Terms" "from" "I", .fieldLink RX10 13 "MillstreamPayments$Terms" "to" "I", .fieldLink RX10 16 "MillstreamPayments$Terms" "currency" "I", .fieldLink RX10 19 "MillstreamPayments$Terms" "amount" "I"]
def wsC_13 : List Cond := [.fieldLink RX10 22 "MillstreamPayments$Terms" "payee" "I", .fieldLink RX10 25 "MillstreamPayments$Terms" "rank" "I", .fieldLink RX10 28 "MillstreamPayments$Terms" "isReal" "Z", .fieldLink RX10 32 "MillstreamPayments$Terms" "day" "I", .fieldLink RX10 35 "MillstreamPayments$Terms" "stays" "Z", .classLink RX6 63 RX10, .instantiable RX10 9, .initialized RX10, .fieldLink RX6 85 "MillstreamPayments$Terms" "to" "I", .fieldLink RX6 88 "MillstreamPayments$Terms" "from" "I", .fieldLink RX6 91 "MillstreamPayments$Terms" "amount" "I", .methodLink RX6 94 yX10_init, .instanceMethod yX10_init, .code yX10_init cX10_init 5 none, .methodLink RX6 97 yX10_arrange, .instanceMethod yX10_arrange, .selects RX10 yX10_arrange yX10_arrange, .code yX10_arrange cX10_arrange 6 none, .classLink RX8 41 "MillstreamPayments$Payment", .methodLink RX8 37 yJx4a65c_get_915e3, .methodLink RX6 121 yX8_count, .instanceMethod yX8_count, .selects RX8 yX8_count yX8_count, .code yX8_count cX8_count 1 (some .int), .methodLink RX6 125 yX8_find]
def wsC_14 : List Cond := [.instanceMethod yX8_find, .selects RX8 yX8_find yX8_find, .code yX8_find cX8_find 2 (some (.object "MillstreamPayments$Payment")), .fieldLink RX7 31 "MillstreamPayments$Terms" "currency" "I", .fieldLink RX7 36 "MillstreamPayments$Terms" "rank" "I", .fieldLink RX8 66 "MillstreamPayments$Payment" "terms" "LMillstreamPayments$Terms;", .fieldLink RX8 70 "MillstreamPayments$Terms" "from" "I", .methodLink RX8 62 yX7_isIn, .instanceMethod yX7_isIn, .selects RX7 yX7_isIn yX7_isIn, .code yX7_isIn cX7_isIn 3 (some .boolean), .methodLink RX8 76 yX7_isBehind, .instanceMethod yX7_isBehind, .selects RX7 yX7_isBehind yX7_isBehind, .code yX7_isBehind cX7_isBehind 2 (some .boolean), .fieldLink RX6 187 "MillstreamPayments$Payment" "finalDay" "I", .methodLink RX6 181 yX2_has, .instanceMethod yX2_has, .selects RX2 yX2_has yX2_has, .code yX2_has cX2_has 2 (some .boolean), .methodLink RX6 190 yX0_pay, .instanceMethod yX0_pay, .selects RX0 yX0_pay yX0_pay, .code yX0_pay cX0_pay 3 none, .methodLink RX6 194 yX1_tell]
def wsC_15 : List Cond := [.instanceMethod yX1_tell, .selects RX1 yX1_tell yX1_tell, .code yX1_tell cX1_tell 3 none, .fieldLink RX6 147 "MillstreamPayments$Payment" "leg" "LMillstreamPayments$Payment;", .methodLink RX6 133 yX8_nextQueued, .instanceMethod yX8_nextQueued, .selects RX8 yX8_nextQueued yX8_nextQueued, .code yX8_nextQueued cX8_nextQueued 7 (some (.object "MillstreamPayments$Payment")), .methodLink RX6 137 yX6_mayMove, .instanceMethod yX6_mayMove, .selects RX6 yX6_mayMove yX6_mayMove, .code yX6_mayMove cX6_mayMove 2 (some .boolean), .methodLink RX6 141 yX2_clear, .instanceMethod yX2_clear, .selects RX2 yX2_clear yX2_clear, .code yX2_clear cX2_clear 1 none, .methodLink RX6 144 yX2_put, .instanceMethod yX2_put, .selects RX2 yX2_put yX2_put, .code yX2_put cX2_put 2 none, .methodLink RX6 151 yX2_isWithinBounds, .instanceMethod yX2_isWithinBounds, .selects RX2 yX2_isWithinBounds yX2_isWithinBounds, .code yX2_isWithinBounds cX2_isWithinBounds 5 (some .boolean), .methodLink RX6 155 yX6_settleBatch]
def wsC_16 : List Cond := [.instanceMethod yX6_settleBatch, .selects RX6 yX6_settleBatch yX6_settleBatch, .code yX6_settleBatch cX6_settleBatch 4 (some .int), .methodLink RX6 129 yX6_settleFirst, .instanceMethod yX6_settleFirst, .selects RX6 yX6_settleFirst yX6_settleFirst, .code yX6_settleFirst cX6_settleFirst 5 (some .int), .methodLink RX6 184 yX7_isBehind, .methodLink RX6 169 yX2_lowestTooLow, .methodLink RX6 173 yX6_lastInBatch, .instanceMethod yX6_lastInBatch, .selects RX6 yX6_lastInBatch yX6_lastInBatch, .code yX6_lastInBatch cX6_lastInBatch 7 (some (.object "MillstreamPayments$Payment")), .methodLink RX6 177 yX2_passesLimit, .methodLink RX6 158 yX7_isIn, .methodLink RX6 162 yX6_nextToTakeOut, .instanceMethod yX6_nextToTakeOut, .selects RX6 yX6_nextToTakeOut yX6_nextToTakeOut, .code yX6_nextToTakeOut cX6_nextToTakeOut 6 (some (.object "MillstreamPayments$Payment")), .methodLink RX6 166 yX2_drop, .instanceMethod yX2_drop, .selects RX2 yX2_drop yX2_drop, .code yX2_drop cX2_drop 2 none, .fieldLink RX7 43 "MillstreamPayments$Payment" "leg" "LMillstreamPayments$Payment;", .methodLink RX7 39 yX7_hasEnded]
def wsC_17 : List Cond := [.instanceMethod yX7_hasEnded, .selects RX7 yX7_hasEnded yX7_hasEnded, .code yX7_hasEnded cX7_hasEnded 1 (some .boolean), .fieldLink RX6 213 "MillstreamPayments$Terms" "stays" "Z", .methodLink RX6 216 yX7_giveBack, .instanceMethod yX7_giveBack, .selects RX7 yX7_giveBack yX7_giveBack, .code yX7_giveBack cX7_giveBack 1 (some .int), .fieldLink RX8 93 "MillstreamPayments$Payment" "finalDay" "I", .fieldLink RX8 96 "MillstreamPayments$Terms" "isReal" "Z", .methodLink RX6 241 yX0_move, .methodLink RX6 223 Lib.MathLoose.max_long.x, .constantLong RX6 237 (99), .constantLong RX6 239 (100), .methodLink RX6 219 yX0_balanceOf, .instanceMethod yX0_balanceOf, .selects RX0 yX0_balanceOf yX0_balanceOf, .code yX0_balanceOf cX0_balanceOf 3 (some .long), .methodLink RX6 229 yX8_feesOf, .instanceMethod yX8_feesOf, .selects RX8 yX8_feesOf yX8_feesOf, .code yX8_feesOf cX8_feesOf 7 (some .int), .methodLink RX6 233 yX6_charge, .instanceMethod yX6_charge, .selects RX6 yX6_charge yX6_charge]
def wsC_18 : List Cond := [.code yX6_charge cX6_charge 5 none, .methodLink RX6 198 yX6_settleMost, .instanceMethod yX6_settleMost, .selects RX6 yX6_settleMost yX6_settleMost, .code yX6_settleMost cX6_settleMost 5 (some .int), .methodLink RX6 201 yX6_giveBackWhatMayNotStay, .instanceMethod yX6_giveBackWhatMayNotStay, .selects RX6 yX6_giveBackWhatMayNotStay yX6_giveBackWhatMayNotStay, .code yX6_giveBackWhatMayNotStay cX6_giveBackWhatMayNotStay 3 none, .methodLink RX6 204 yX6_chargeBanks, .instanceMethod yX6_chargeBanks, .selects RX6 yX6_chargeBanks yX6_chargeBanks, .code yX6_chargeBanks cX6_chargeBanks 5 none, .methodLink RX6 207 yX0_beginDay, .instanceMethod yX0_beginDay, .selects RX0 yX0_beginDay yX0_beginDay, .code yX0_beginDay cX0_beginDay 1 none, .methodLink RX6 210 yX6_letWaitingEnter, .instanceMethod yX6_letWaitingEnter, .selects RX6 yX6_letWaitingEnter yX6_letWaitingEnter, .code yX6_letWaitingEnter cX6_letWaitingEnter 3 none, .fieldLink RX7 47 "MillstreamPayments$Terms" "isReal" "Z", .methodLink RX7 51 yX10_isWayBackOf, .instanceMethod yX10_isWayBackOf, .selects RX10 yX10_isWayBackOf yX10_isWayBackOf]
def wsC_19 : List Cond := [.code yX10_isWayBackOf cX10_isWayBackOf 2 (some .boolean), .methodLink RX8 50 yX9_at, .methodLink RX8 54 yX8_find, .methodLink RX8 58 yX9_put, .methodLink RX8 84 Lib.Math.min.name, .fieldLink RX8 90 "MillstreamPayments$Payment" "number" "I", .methodLink RX8 80 yX8_nextQueued, .methodLink RX11 1 objectInit, .classLink RX11 7 RX6, .instantiable RX6 8, .fieldLink RX11 10 "MillstreamPayments" "exchange" "LMillstreamPayments$Exchange;", .instanceMethod yX6_init, .code yX6_init cX6_init 1 none, .classLink RX11 213 "java/lang/IndexOutOfBoundsException", .initialized "java/lang/IndexOutOfBoundsException", .classLink RX11 252 "java/lang/IllegalArgumentException", .initialized "java/lang/IllegalArgumentException", .constant RX11 20 (1000000), .fieldLink RX11 25 "MillstreamPayments$Exchange" "accounts" "LMillstreamPayments$Accounts;", .methodLink RX11 16 yX11_needPlace, .static yX11_needPlace, .code yX11_needPlace cX11_needPlace 2 none, .methodLink RX11 21 yX11_needRange, .static yX11_needRange, .code yX11_needRange cX11_needRange 3 none]
def wsC_20 : List Cond := [.methodLink RX11 29 yX0_move, .methodLink RX11 35 yX6_runQueues, .instanceMethod yX6_runQueues, .selects RX6 yX6_runQueues yX6_runQueues, .code yX6_runQueues cX6_runQueues 6 (some .int), .methodLink RX11 39 yX0_balanceOf, .methodLink RX11 43 yX0_changeLine, .instanceMethod yX0_changeLine, .selects RX0 yX0_changeLine yX0_changeLine, .code yX0_changeLine cX0_changeLine 6 (some .int), .methodLink RX11 47 yX11_needTwoBanks, .static yX11_needTwoBanks, .code yX11_needTwoBanks cX11_needTwoBanks 2 none, .methodLink RX11 50 yX11_pairSlot, .methodLink RX11 53 yX0_changeLimit, .instanceMethod yX0_changeLimit, .selects RX0 yX0_changeLimit yX0_changeLimit, .code yX0_changeLimit cX0_changeLimit 4 (some .int), .fieldLink RX11 57 "MillstreamPayments$Exchange" "outages" "LMillstreamPayments$Row;", .methodLink RX11 61 yX9_isSet, .methodLink RX11 67 yX9_mark, .fieldLink RX11 71 "MillstreamPayments$Exchange" "calendar" "LMillstreamPayments$Calendar;", .methodLink RX11 75 yX4_changeHoliday, .instanceMethod yX4_changeHoliday, .selects RX4 yX4_changeHoliday yX4_changeHoliday]
def wsC_21 : List Cond := [.code yX4_changeHoliday cX4_changeHoliday 4 none, .methodLink RX11 81 yX4_isOpen, .fieldLink RX11 85 "MillstreamPayments$Exchange" "listed" "LMillstreamPayments$Row;", .methodLink RX11 88 yX6_holdPaymentsFor, .instanceMethod yX6_holdPaymentsFor, .selects RX6 yX6_holdPaymentsFor yX6_holdPaymentsFor, .code yX6_holdPaymentsFor cX6_holdPaymentsFor 5 (some .int), .classLink RX11 259 "java/lang/IllegalStateException", .initialized "java/lang/IllegalStateException", .classLink RX11 96 RX10, .fieldLink RX11 105 "MillstreamPayments$Exchange" "register" "LMillstreamPayments$Register;", .fieldLink RX11 115 "MillstreamPayments$Payment" "terms" "LMillstreamPayments$Terms;", .fieldLink RX11 125 "MillstreamPayments$Exchange" "doubles" "I", .fieldLink RX11 129 "MillstreamPayments$Payment" "number" "I", .methodLink RX11 92 yX11_needState, .static yX11_needState, .code yX11_needState cX11_needState 1 none, .methodLink RX11 98 yX10_init, .methodLink RX11 101 yX10_arrange, .methodLink RX11 109 yX8_toldBy, .instanceMethod yX8_toldBy, .selects RX8 yX8_toldBy yX8_toldBy, .code yX8_toldBy cX8_toldBy 3 (some (.object "MillstreamPayments$Payment")), .methodLink RX11 121 yX10_isLike, .instanceMethod yX10_isLike]
def wsC_22 : List Cond := [.selects RX10 yX10_isLike yX10_isLike, .code yX10_isLike cX10_isLike 2 (some .boolean), .methodLink RX11 132 yX8_isFull, .instanceMethod yX8_isFull, .selects RX8 yX8_isFull yX8_isFull, .code yX8_isFull cX8_isFull 1 (some .boolean), .methodLink RX11 136 yX6_bringIn, .instanceMethod yX6_bringIn, .selects RX6 yX6_bringIn yX6_bringIn, .code yX6_bringIn cX6_bringIn 3 (some .int), .methodLink RX11 140 yX8_keepMessage, .instanceMethod yX8_keepMessage, .selects RX8 yX8_keepMessage yX8_keepMessage, .code yX8_keepMessage cX8_keepMessage 4 none, .methodLink RX11 264 yX8_find, .fieldLink RX11 151 "MillstreamPayments$Payment" "leg" "LMillstreamPayments$Payment;", .methodLink RX11 143 yX11_needPayment, .instanceMethod yX11_needPayment, .selects RX11 yX11_needPayment yX11_needPayment, .code yX11_needPayment cX11_needPayment 3 (some (.object "MillstreamPayments$Payment")), .methodLink RX11 147 yX7_canBeLegWith, .instanceMethod yX7_canBeLegWith, .selects RX7 yX7_canBeLegWith yX7_canBeLegWith, .code yX7_canBeLegWith cX7_canBeLegWith 2 (some .boolean), .methodLink RX11 155 yX7_hasEnded]
def wsC_23 : List Cond := [.methodLink RX11 158 yX7_giveBack, .fieldLink RX11 161 "MillstreamPayments$Payment" "state" "I", .fieldLink RX11 164 "MillstreamPayments$Payment" "officer" "I", .fieldLink RX11 167 "MillstreamPayments$Payment" "isReleased" "Z", .methodLink RX11 171 yX6_letEnter, .methodLink RX11 175 yX6_settleMost, .fieldLink RX11 178 "MillstreamPayments$Calendar" "day" "I", .fieldLink RX11 181 "MillstreamPayments$Payment" "finalDay" "I", .fieldLink RX11 184 "MillstreamPayments$Payment" "lastAnswerDay" "I", .fieldLink RX11 187 "MillstreamPayments$Payment" "isAnswered" "Z", .methodLink RX11 190 yX6_termsBack, .instanceMethod yX6_termsBack, .selects RX6 yX6_termsBack yX6_termsBack, .code yX6_termsBack cX6_termsBack 3 (some (.object "MillstreamPayments$Terms")), .methodLink RX11 194 yX6_closeDay, .instanceMethod yX6_closeDay, .selects RX6 yX6_closeDay yX6_closeDay, .code yX6_closeDay cX6_closeDay 3 (some .int), .fieldLink RX11 197 "MillstreamPayments$Accounts" "book" "LMillstreamPayments$Book;", .methodLink RX11 201 yX3_sumOf, .instanceMethod yX3_sumOf, .selects RX3 yX3_sumOf yX3_sumOf, .code yX3_sumOf cX3_sumOf 7 (some .long), .methodLink RX11 206 yX0_paidOf, .instanceMethod yX0_paidOf]
def wsC_24 : List Cond := [.selects RX0 yX0_paidOf yX0_paidOf, .code yX0_paidOf cX0_paidOf 2 (some .long), .methodLink RX11 210 yX8_count, .methodLink RX11 220 yX8_queuedAt, .instanceMethod yX8_queuedAt, .selects RX8 yX8_queuedAt yX8_queuedAt, .code yX8_queuedAt cX8_queuedAt 6 (some .int), .methodLink RX11 223 yX3_count, .instanceMethod yX3_count, .selects RX3 yX3_count yX3_count, .code yX3_count cX3_count 1 (some .int), .methodLink RX11 224 yX3_find, .instanceMethod yX3_find, .selects RX3 yX3_find yX3_find, .code yX3_find cX3_find 2 (some (.object "MillstreamPayments$Entry")), .methodLink RX11 232 yX5_part, .instanceMethod yX5_part, .selects RX5 yX5_part yX5_part, .code yX5_part cX5_part 2 (some .long), .fieldLink RX11 235 "MillstreamPayments$Exchange" "advices" "LMillstreamPayments$Advices;", .methodLink RX11 239 yX1_takeNext, .instanceMethod yX1_takeNext, .selects RX1 yX1_takeNext yX1_takeNext, .code yX1_takeNext cX1_takeNext 3 (some .int), .methodLink RX11 244 yX1_mostTaken]
def wsC_25 : List Cond := [.instanceMethod yX1_mostTaken, .selects RX1 yX1_mostTaken yX1_mostTaken, .code yX1_mostTaken cX1_mostTaken 2 (some .int), .methodLink RX11 247 yX1_startFrom, .instanceMethod yX1_startFrom, .selects RX1 yX1_startFrom yX1_startFrom, .code yX1_startFrom cX1_startFrom 3 (some .int)]
def wsC : List Cond := (wsC_0 ++ (wsC_1 ++ (wsC_2 ++ (wsC_3 ++ (wsC_4 ++ (wsC_5 ++ (wsC_6 ++ (wsC_7 ++ (wsC_8 ++ (wsC_9 ++ (wsC_10 ++ (wsC_11 ++ (wsC_12 ++ (wsC_13 ++ (wsC_14 ++ (wsC_15 ++ (wsC_16 ++ (wsC_17 ++ (wsC_18 ++ (wsC_19 ++ (wsC_20 ++ (wsC_21 ++ (wsC_22 ++ (wsC_23 ++ (wsC_24 ++ (wsC_25 ++ (wsX00 ++ (wsX10 ++ (wsX20 ++ (wsX30 ++ (wsX40 ++ (wsX50 ++ (wsX60 ++ (wsX70 ++ (wsX80 ++ (wsX90 ++ (wsX100 ++ (wsX110 ++ (wsJx4a65c0 ++ (((vx_atS RX11 217 "java/lang/IndexOutOfBoundsException" ["java/lang/RuntimeException", "java/lang/Exception"]).filter goodWord) ++ (((vx_atS RX11 256 "java/lang/IllegalArgumentException" ["java/lang/RuntimeException", "java/lang/Exception"]).filter goodWord) ++ ((vx_atS RX11 263 "java/lang/IllegalStateException" ["java/lang/RuntimeException", "java/lang/Exception"]).filter goodWord))))))))))))))))))))))))))))))))))))))))))
theorem wsCw_0 : (.methodLink RJxa1e45 1 objectInit : Cond) ∈ wsC := List.mem_append_left _ (List.mem_of_getElem? (l := wsC_0) (i := 0) rfl)
theorem wsCw_1 : (.instanceMethod objectInit : Cond) ∈ wsC := List.mem_append_left _ (List.mem_of_getElem? (l := wsC_0) (i := 1) rfl)
theorem wsCw_2 : (.code objectInit ⟨#[0xb1]⟩ 1 none : Cond) ∈ wsC := List.mem_append_left _ (List.mem_of_getElem? (l := wsC_0) (i := 2) rfl)
theorem wsCw_3 : (.fieldLink RJxc12de 7 "java/util/AbstractList" "modCount" "I" : Cond) ∈ wsC := List.mem_append_left _ (List.mem_of_getElem? (l := wsC_0) (i := 3) rfl)
theorem wsCw_4 : (.methodLink RJxc12de 1 yJxa1e45_init_da8c8 : Cond) ∈ wsC := List.mem_append_left _ (List.mem_of_getElem? (l := wsC_0) (i := 4) rfl)
theorem wsCw_5 : (.instanceMethod yJxa1e45_init_da8c8 : Cond) ∈ wsC := List.mem_append_left _ (List.mem_of_getElem? (l := wsC_0) (i := 5) rfl)
theorem wsCw_6 : (.initialized RJxa1e45 : Cond) ∈ wsC := List.mem_append_left _ (List.mem_of_getElem? (l := wsC_0) (i := 6) rfl)
theorem wsCw_7 : (.code yJxa1e45_init_da8c8 cJxa1e45_init_da8c8 1 none : Cond) ∈ wsC := List.mem_append_left _ (List.mem_of_getElem? (l := wsC_0) (i := 7) rfl)
theorem wsCw_8 : (.fieldLink RJx4a65c 39 "java/util/ArrayList" "DEFAULTCAPACITY_EMPTY_ELEMENTDATA" "[Ljava/lang/Object;" : Cond) ∈ wsC := List.mem_append_left _ (List.mem_of_getElem? (l := wsC_0) (i := 8) rfl)
theorem wsCw_9 : (.fieldLink RJx4a65c 9 "java/util/ArrayList" "elementData" "[Ljava/lang/Object;" : Cond) ∈ wsC := List.mem_append_left _ (List.mem_of_getElem? (l := wsC_0) (i := 9) rfl)
theorem wsCw_10 : (.methodLink RJx4a65c 1 yJxc12de_init_da8c8 : Cond) ∈ wsC := List.mem_append_left _ (List.mem_of_getElem? (l := wsC_0) (i := 10) rfl)
theorem wsCw_11 : (.instanceMethod yJxc12de_init_da8c8 : Cond) ∈ wsC := List.mem_append_left _ (List.mem_of_getElem? (l := wsC_0) (i := 11) rfl)
theorem wsCw_12 : (.initialized RJxc12de : Cond) ∈ wsC := List.mem_append_left _ (List.mem_of_getElem? (l := wsC_0) (i := 12) rfl)
theorem wsCw_13 : (.code yJxc12de_init_da8c8 cJxc12de_init_da8c8 1 none : Cond) ∈ wsC := List.mem_append_left _ (List.mem_of_getElem? (l := wsC_0) (i := 13) rfl)
theorem wsCw_14 : (.methodLink RX3 3 objectInit : Cond) ∈ wsC := List.mem_append_left _ (List.mem_of_getElem? (l := wsC_0) (i := 14) rfl)
theorem wsCw_15 : (.classLink RX3 9 RJx4a65c : Cond) ∈ wsC := List.mem_append_left _ (List.mem_of_getElem? (l := wsC_0) (i := 15) rfl)
theorem wsCw_16 : (.instantiable RJx4a65c 3 : Cond) ∈ wsC := List.mem_append_left _ (List.mem_of_getElem? (l := wsC_0) (i := 16) rfl)
theorem wsCw_17 : (.initialized RJx4a65c : Cond) ∈ wsC := List.mem_append_left _ (List.mem_of_getElem? (l := wsC_0) (i := 17) rfl)
theorem wsCw_18 : (.fieldLink RX3 12 "MillstreamPayments$Book" "kept" "Ljava/util/ArrayList;" : Cond) ∈ wsC := List.mem_append_left _ (List.mem_of_getElem? (l := wsC_0) (i := 18) rfl)
theorem wsCw_19 : (.methodLink RX3 11 yJx4a65c_init_da8c8 : Cond) ∈ wsC := List.mem_append_left _ (List.mem_of_getElem? (l := wsC_0) (i := 19) rfl)
theorem wsCw_20 : (.instanceMethod yJx4a65c_init_da8c8 : Cond) ∈ wsC := List.mem_append_left _ (List.mem_of_getElem? (l := wsC_0) (i := 20) rfl)
theorem wsCw_21 : (.code yJx4a65c_init_da8c8 cJx4a65c_init_da8c8 1 none : Cond) ∈ wsC := List.mem_append_left _ (List.mem_of_getElem? (l := wsC_0) (i := 21) rfl)
theorem wsCw_22 : (.methodLink RX9 1 objectInit : Cond) ∈ wsC := List.mem_append_left _ (List.mem_of_getElem? (l := wsC_0) (i := 22) rfl)
theorem wsCw_23 : (.methodLink RX9 7 Lib.Math.max.name : Cond) ∈ wsC := List.mem_append_left _ (List.mem_of_getElem? (l := wsC_0) (i := 23) rfl)
theorem wsCw_24 : (.static Lib.Math.max.name : Cond) ∈ wsC := List.mem_append_left _ (List.mem_of_getElem? (l := wsC_0) (i := 24) rfl)
theorem wsCw_25 : (.initialized "java/lang/Math" : Cond) ∈ wsC := List.mem_append_right _ (List.mem_append_left _ (List.mem_of_getElem? (l := wsC_1) (i := 0) rfl))
theorem wsCw_26 : (.code Lib.Math.max.name Lib.Math.max.code 2 (some .int) : Cond) ∈ wsC := List.mem_append_right _ (List.mem_append_left _ (List.mem_of_getElem? (l := wsC_1) (i := 1) rfl))
theorem wsCw_27 : (.arrayClass .long : Cond) ∈ wsC := List.mem_append_right _ (List.mem_append_left _ (List.mem_of_getElem? (l := wsC_1) (i := 2) rfl))
theorem wsCw_28 : (.fieldLink RX9 13 "MillstreamPayments$Row" "cells" "[J" : Cond) ∈ wsC := List.mem_append_right _ (List.mem_append_left _ (List.mem_of_getElem? (l := wsC_1) (i := 3) rfl))
theorem wsCw_29 : (.methodLink RX0 3 objectInit : Cond) ∈ wsC := List.mem_append_right _ (List.mem_append_left _ (List.mem_of_getElem? (l := wsC_1) (i := 4) rfl))
theorem wsCw_30 : (.classLink RX0 9 RX3 : Cond) ∈ wsC := List.mem_append_right _ (List.mem_append_left _ (List.mem_of_getElem? (l := wsC_1) (i := 5) rfl))
theorem wsCw_31 : (.instantiable RX3 1 : Cond) ∈ wsC := List.mem_append_right _ (List.mem_append_left _ (List.mem_of_getElem? (l := wsC_1) (i := 6) rfl))
theorem wsCw_32 : (.initialized RX3 : Cond) ∈ wsC := List.mem_append_right _ (List.mem_append_left _ (List.mem_of_getElem? (l := wsC_1) (i := 7) rfl))
theorem wsCw_33 : (.fieldLink RX0 12 "MillstreamPayments$Accounts" "book" "LMillstreamPayments$Book;" : Cond) ∈ wsC := List.mem_append_right _ (List.mem_append_left _ (List.mem_of_getElem? (l := wsC_1) (i := 8) rfl))
theorem wsCw_34 : (.classLink RX0 18 RX9 : Cond) ∈ wsC := List.mem_append_right _ (List.mem_append_left _ (List.mem_of_getElem? (l := wsC_1) (i := 9) rfl))
theorem wsCw_35 : (.instantiable RX9 1 : Cond) ∈ wsC := List.mem_append_right _ (List.mem_append_left _ (List.mem_of_getElem? (l := wsC_1) (i := 10) rfl))
theorem wsCw_36 : (.initialized RX9 : Cond) ∈ wsC := List.mem_append_right _ (List.mem_append_left _ (List.mem_of_getElem? (l := wsC_1) (i := 11) rfl))
theorem wsCw_37 : (.fieldLink RX0 23 "MillstreamPayments$Accounts" "balances" "LMillstreamPayments$Row;" : Cond) ∈ wsC := List.mem_append_right _ (List.mem_append_left _ (List.mem_of_getElem? (l := wsC_1) (i := 12) rfl))
theorem wsCw_38 : (.fieldLink RX0 27 "MillstreamPayments$Accounts" "lines" "LMillstreamPayments$Row;" : Cond) ∈ wsC := List.mem_append_right _ (List.mem_append_left _ (List.mem_of_getElem? (l := wsC_1) (i := 13) rfl))
theorem wsCw_39 : (.fieldLink RX0 30 "MillstreamPayments$Accounts" "paidToday" "LMillstreamPayments$Row;" : Cond) ∈ wsC := List.mem_append_right _ (List.mem_append_left _ (List.mem_of_getElem? (l := wsC_1) (i := 14) rfl))
theorem wsCw_40 : (.fieldLink RX0 33 "MillstreamPayments$Accounts" "limits" "LMillstreamPayments$Row;" : Cond) ∈ wsC := List.mem_append_right _ (List.mem_append_left _ (List.mem_of_getElem? (l := wsC_1) (i := 15) rfl))
theorem wsCw_41 : (.constantLong RX0 36 (-1) : Cond) ∈ wsC := List.mem_append_right _ (List.mem_append_left _ (List.mem_of_getElem? (l := wsC_1) (i := 16) rfl))
theorem wsCw_42 : (.instanceMethod yX3_init : Cond) ∈ wsC := List.mem_append_right _ (List.mem_append_left _ (List.mem_of_getElem? (l := wsC_1) (i := 17) rfl))
theorem wsCw_43 : (.code yX3_init cX3_init 1 none : Cond) ∈ wsC := List.mem_append_right _ (List.mem_append_left _ (List.mem_of_getElem? (l := wsC_1) (i := 18) rfl))
theorem wsCw_44 : (.methodLink RX0 20 yX9_init : Cond) ∈ wsC := List.mem_append_right _ (List.mem_append_left _ (List.mem_of_getElem? (l := wsC_1) (i := 19) rfl))
theorem wsCw_45 : (.instanceMethod yX9_init : Cond) ∈ wsC := List.mem_append_right _ (List.mem_append_left _ (List.mem_of_getElem? (l := wsC_1) (i := 20) rfl))
theorem wsCw_46 : (.code yX9_init cX9_init 2 none : Cond) ∈ wsC := List.mem_append_right _ (List.mem_append_left _ (List.mem_of_getElem? (l := wsC_1) (i := 21) rfl))
theorem wsCw_47 : (.methodLink RX0 38 yX9_fill : Cond) ∈ wsC := List.mem_append_right _ (List.mem_append_left _ (List.mem_of_getElem? (l := wsC_1) (i := 22) rfl))
theorem wsCw_48 : (.instanceMethod yX9_fill : Cond) ∈ wsC := List.mem_append_right _ (List.mem_append_left _ (List.mem_of_getElem? (l := wsC_1) (i := 23) rfl))
theorem wsCw_49 : (.selects RX9 yX9_fill yX9_fill : Cond) ∈ wsC := List.mem_append_right _ (List.mem_append_left _ (List.mem_of_getElem? (l := wsC_1) (i := 24) rfl))
theorem wsCw_50 : (.code yX9_fill cX9_fill 4 none : Cond) ∈ wsC := List.mem_append_right _ (List.mem_append_right _ (List.mem_append_left _ (List.mem_of_getElem? (l := wsC_2) (i := 0) rfl)))
theorem wsCw_51 : (.static yX11_accountSlot : Cond) ∈ wsC := List.mem_append_right _ (List.mem_append_right _ (List.mem_append_left _ (List.mem_of_getElem? (l := wsC_2) (i := 1) rfl)))
theorem wsCw_52 : (.initialized RX11 : Cond) ∈ wsC := List.mem_append_right _ (List.mem_append_right _ (List.mem_append_left _ (List.mem_of_getElem? (l := wsC_2) (i := 2) rfl)))
theorem wsCw_53 : (.code yX11_accountSlot cX11_accountSlot 2 (some .int) : Cond) ∈ wsC := List.mem_append_right _ (List.mem_append_right _ (List.mem_append_left _ (List.mem_of_getElem? (l := wsC_2) (i := 3) rfl)))
theorem wsCw_54 : (.methodLink RX0 46 yX9_at : Cond) ∈ wsC := List.mem_append_right _ (List.mem_append_right _ (List.mem_append_left _ (List.mem_of_getElem? (l := wsC_2) (i := 4) rfl)))
theorem wsCw_55 : (.instanceMethod yX9_at : Cond) ∈ wsC := List.mem_append_right _ (List.mem_append_right _ (List.mem_append_left _ (List.mem_of_getElem? (l := wsC_2) (i := 5) rfl)))
theorem wsCw_56 : (.selects RX9 yX9_at yX9_at : Cond) ∈ wsC := List.mem_append_right _ (List.mem_append_right _ (List.mem_append_left _ (List.mem_of_getElem? (l := wsC_2) (i := 6) rfl)))
theorem wsCw_57 : (.code yX9_at cX9_at 2 (some .long) : Cond) ∈ wsC := List.mem_append_right _ (List.mem_append_right _ (List.mem_append_left _ (List.mem_of_getElem? (l := wsC_2) (i := 7) rfl)))
theorem wsCw_58 : (.methodLink RX0 50 yX9_put : Cond) ∈ wsC := List.mem_append_right _ (List.mem_append_right _ (List.mem_append_left _ (List.mem_of_getElem? (l := wsC_2) (i := 8) rfl)))
theorem wsCw_59 : (.instanceMethod yX9_put : Cond) ∈ wsC := List.mem_append_right _ (List.mem_append_right _ (List.mem_append_left _ (List.mem_of_getElem? (l := wsC_2) (i := 9) rfl)))
theorem wsCw_60 : (.selects RX9 yX9_put yX9_put : Cond) ∈ wsC := List.mem_append_right _ (List.mem_append_right _ (List.mem_append_left _ (List.mem_of_getElem? (l := wsC_2) (i := 10) rfl)))
theorem wsCw_61 : (.code yX9_put cX9_put 4 none : Cond) ∈ wsC := List.mem_append_right _ (List.mem_append_right _ (List.mem_append_left _ (List.mem_of_getElem? (l := wsC_2) (i := 11) rfl)))
theorem wsCw_62 : (.methodLink RX5 1 objectInit : Cond) ∈ wsC := List.mem_append_right _ (List.mem_append_right _ (List.mem_append_left _ (List.mem_of_getElem? (l := wsC_2) (i := 12) rfl)))
theorem wsCw_63 : (.fieldLink RX5 7 "MillstreamPayments$Entry" "from" "I" : Cond) ∈ wsC := List.mem_append_right _ (List.mem_append_right _ (List.mem_append_left _ (List.mem_of_getElem? (l := wsC_2) (i := 13) rfl)))
theorem wsCw_64 : (.fieldLink RX5 13 "MillstreamPayments$Entry" "to" "I" : Cond) ∈ wsC := List.mem_append_right _ (List.mem_append_right _ (List.mem_append_left _ (List.mem_of_getElem? (l := wsC_2) (i := 14) rfl)))
theorem wsCw_65 : (.fieldLink RX5 16 "MillstreamPayments$Entry" "currency" "I" : Cond) ∈ wsC := List.mem_append_right _ (List.mem_append_right _ (List.mem_append_left _ (List.mem_of_getElem? (l := wsC_2) (i := 15) rfl)))
theorem wsCw_66 : (.fieldLink RX5 19 "MillstreamPayments$Entry" "amount" "J" : Cond) ∈ wsC := List.mem_append_right _ (List.mem_append_right _ (List.mem_append_left _ (List.mem_of_getElem? (l := wsC_2) (i := 16) rfl)))
theorem wsCw_67 : (.fieldLink RX5 23 "MillstreamPayments$Entry" "payment" "I" : Cond) ∈ wsC := List.mem_append_right _ (List.mem_append_right _ (List.mem_append_left _ (List.mem_of_getElem? (l := wsC_2) (i := 17) rfl)))
theorem wsCw_68 : (.fieldLink RJx4a65c 48 "java/util/ArrayList" "size" "I" : Cond) ∈ wsC := List.mem_append_right _ (List.mem_append_right _ (List.mem_append_left _ (List.mem_of_getElem? (l := wsC_2) (i := 18) rfl)))
theorem wsCw_69 : (.constant RJ8 200 (2147483639) : Cond) ∈ wsC := List.mem_append_right _ (List.mem_append_right _ (List.mem_append_left _ (List.mem_of_getElem? (l := wsC_2) (i := 19) rfl)))
theorem wsCw_70 : (.methodLink RJ8 194 Lib.Math.max.name : Cond) ∈ wsC := List.mem_append_right _ (List.mem_append_right _ (List.mem_append_left _ (List.mem_of_getElem? (l := wsC_2) (i := 20) rfl)))
theorem wsCw_71 : (.methodLink RJ8 201 yJ8_hugeLength_7cf53 : Cond) ∈ wsC := List.mem_append_right _ (List.mem_append_right _ (List.mem_append_left _ (List.mem_of_getElem? (l := wsC_2) (i := 21) rfl)))
theorem wsCw_72 : (.static yJ8_hugeLength_7cf53 : Cond) ∈ wsC := List.mem_append_right _ (List.mem_append_right _ (List.mem_append_left _ (List.mem_of_getElem? (l := wsC_2) (i := 22) rfl)))
theorem wsCw_73 : (.initialized RJ8 : Cond) ∈ wsC := List.mem_append_right _ (List.mem_append_right _ (List.mem_append_left _ (List.mem_of_getElem? (l := wsC_2) (i := 23) rfl)))
theorem wsCw_74 : (.code yJ8_hugeLength_7cf53 cJ8_hugeLength_7cf53 3 (some .int) : Cond) ∈ wsC := List.mem_append_right _ (List.mem_append_right _ (List.mem_append_left _ (List.mem_of_getElem? (l := wsC_2) (i := 24) rfl)))
theorem wsCw_75 : (.classLink RJ7 110 "[Ljava/lang/Object;" : Cond) ∈ wsC := List.mem_append_right _ (List.mem_append_right _ (List.mem_append_right _ (List.mem_append_left _ (List.mem_of_getElem? (l := wsC_3) (i := 0) rfl))))
theorem wsCw_76 : (.classLink RJ7 2 "java/lang/Object" : Cond) ∈ wsC := List.mem_append_right _ (List.mem_append_right _ (List.mem_append_right _ (List.mem_append_left _ (List.mem_of_getElem? (l := wsC_3) (i := 1) rfl))))
theorem wsCw_77 : (.methodLink RJ7 304 Lib.Math.min.name : Cond) ∈ wsC := List.mem_append_right _ (List.mem_append_right _ (List.mem_append_right _ (List.mem_append_left _ (List.mem_of_getElem? (l := wsC_3) (i := 2) rfl))))
theorem wsCw_78 : (.static Lib.Math.min.name : Cond) ∈ wsC := List.mem_append_right _ (List.mem_append_right _ (List.mem_append_right _ (List.mem_append_left _ (List.mem_of_getElem? (l := wsC_3) (i := 3) rfl))))
theorem wsCw_79 : (.code Lib.Math.min.name Lib.Math.min.code 2 (some .int) : Cond) ∈ wsC := List.mem_append_right _ (List.mem_append_right _ (List.mem_append_right _ (List.mem_append_left _ (List.mem_of_getElem? (l := wsC_3) (i := 4) rfl))))
theorem wsCw_80 : (.methodLink RJ7 150 arraycopyName : Cond) ∈ wsC := List.mem_append_right _ (List.mem_append_right _ (List.mem_append_right _ (List.mem_append_left _ (List.mem_of_getElem? (l := wsC_3) (i := 5) rfl))))
theorem wsCw_81 : (.native arraycopyName : Cond) ∈ wsC := List.mem_append_right _ (List.mem_append_right _ (List.mem_append_right _ (List.mem_append_left _ (List.mem_of_getElem? (l := wsC_3) (i := 6) rfl))))
theorem wsCw_82 : (.static arraycopyName : Cond) ∈ wsC := List.mem_append_right _ (List.mem_append_right _ (List.mem_append_right _ (List.mem_append_left _ (List.mem_of_getElem? (l := wsC_3) (i := 7) rfl))))
theorem wsCw_83 : (.initialized "java/lang/System" : Cond) ∈ wsC := List.mem_append_right _ (List.mem_append_right _ (List.mem_append_right _ (List.mem_append_left _ (List.mem_of_getElem? (l := wsC_3) (i := 8) rfl))))
theorem wsCw_84 : (.methodLink RJ7 86 ⟨"java/lang/Object", "getClass", "()Ljava/lang/Class;"⟩ : Cond) ∈ wsC := List.mem_append_right _ (List.mem_append_right _ (List.mem_append_right _ (List.mem_append_left _ (List.mem_of_getElem? (l := wsC_3) (i := 9) rfl))))
theorem wsCw_85 : (.selects "[Ljava/lang/Object;" ⟨"java/lang/Object", "getClass", "()Ljava/lang/Class;"⟩ ⟨"java/lang/Object", "getClass", "()Ljava/lang/Class;"⟩ : Cond) ∈ wsC := List.mem_append_right _ (List.mem_append_right _ (List.mem_append_right _ (List.mem_append_left _ (List.mem_of_getElem? (l := wsC_3) (i := 10) rfl))))
theorem wsCw_86 : (.instanceMethod ⟨"java/lang/Object", "getClass", "()Ljava/lang/Class;"⟩ : Cond) ∈ wsC := List.mem_append_right _ (List.mem_append_right _ (List.mem_append_right _ (List.mem_append_left _ (List.mem_of_getElem? (l := wsC_3) (i := 11) rfl))))
theorem wsCw_87 : (.native ⟨"java/lang/Object", "getClass", "()Ljava/lang/Class;"⟩ : Cond) ∈ wsC := List.mem_append_right _ (List.mem_append_right _ (List.mem_append_right _ (List.mem_append_left _ (List.mem_of_getElem? (l := wsC_3) (i := 12) rfl))))
theorem wsCw_88 : (.methodLink RJ7 300 yJ7_copyOf_6403c : Cond) ∈ wsC := List.mem_append_right _ (List.mem_append_right _ (List.mem_append_right _ (List.mem_append_left _ (List.mem_of_getElem? (l := wsC_3) (i := 13) rfl))))
theorem wsCw_89 : (.static yJ7_copyOf_6403c : Cond) ∈ wsC := List.mem_append_right _ (List.mem_append_right _ (List.mem_append_right _ (List.mem_append_left _ (List.mem_of_getElem? (l := wsC_3) (i := 14) rfl))))
theorem wsCw_90 : (.initialized RJ7 : Cond) ∈ wsC := List.mem_append_right _ (List.mem_append_right _ (List.mem_append_right _ (List.mem_append_left _ (List.mem_of_getElem? (l := wsC_3) (i := 15) rfl))))
theorem wsCw_91 : (.code yJ7_copyOf_6403c cJ7_copyOf_6403c 4 (some (.array (.object "java/lang/Object"))) : Cond) ∈ wsC := List.mem_append_right _ (List.mem_append_right _ (List.mem_append_right _ (List.mem_append_left _ (List.mem_of_getElem? (l := wsC_3) (i := 16) rfl))))
theorem wsCw_92 : (.methodLink RJx4a65c 79 Lib.Math.max.name : Cond) ∈ wsC := List.mem_append_right _ (List.mem_append_right _ (List.mem_append_right _ (List.mem_append_left _ (List.mem_of_getElem? (l := wsC_3) (i := 17) rfl))))
theorem wsCw_93 : (.classLink RJx4a65c 7 "java/lang/Object" : Cond) ∈ wsC := List.mem_append_right _ (List.mem_append_right _ (List.mem_append_right _ (List.mem_append_left _ (List.mem_of_getElem? (l := wsC_3) (i := 18) rfl))))
theorem wsCw_94 : (.methodLink RJx4a65c 73 yJ8_newLength_cabcc : Cond) ∈ wsC := List.mem_append_right _ (List.mem_append_right _ (List.mem_append_right _ (List.mem_append_left _ (List.mem_of_getElem? (l := wsC_3) (i := 19) rfl))))
theorem wsCw_95 : (.static yJ8_newLength_cabcc : Cond) ∈ wsC := List.mem_append_right _ (List.mem_append_right _ (List.mem_append_right _ (List.mem_append_left _ (List.mem_of_getElem? (l := wsC_3) (i := 20) rfl))))
theorem wsCw_96 : (.code yJ8_newLength_cabcc cJ8_newLength_cabcc 4 (some .int) : Cond) ∈ wsC := List.mem_append_right _ (List.mem_append_right _ (List.mem_append_right _ (List.mem_append_left _ (List.mem_of_getElem? (l := wsC_3) (i := 21) rfl))))
theorem wsCw_97 : (.methodLink RJx4a65c 66 yJ7_copyOf_1904c : Cond) ∈ wsC := List.mem_append_right _ (List.mem_append_right _ (List.mem_append_right _ (List.mem_append_left _ (List.mem_of_getElem? (l := wsC_3) (i := 22) rfl))))
theorem wsCw_98 : (.static yJ7_copyOf_1904c : Cond) ∈ wsC := List.mem_append_right _ (List.mem_append_right _ (List.mem_append_right _ (List.mem_append_left _ (List.mem_of_getElem? (l := wsC_3) (i := 23) rfl))))
theorem wsCw_99 : (.code yJ7_copyOf_1904c cJ7_copyOf_1904c 2 (some (.array (.object "java/lang/Object"))) : Cond) ∈ wsC := List.mem_append_right _ (List.mem_append_right _ (List.mem_append_right _ (List.mem_append_left _ (List.mem_of_getElem? (l := wsC_3) (i := 24) rfl))))
theorem wsCw_100 : (.methodLink RJx4a65c 69 yJx4a65c_grow_92f84 : Cond) ∈ wsC := List.mem_append_right _ (List.mem_append_right _ (List.mem_append_right _ (List.mem_append_right _ (List.mem_append_left _ (List.mem_of_getElem? (l := wsC_4) (i := 0) rfl)))))
theorem wsCw_101 : (.instanceMethod yJx4a65c_grow_92f84 : Cond) ∈ wsC := List.mem_append_right _ (List.mem_append_right _ (List.mem_append_right _ (List.mem_append_right _ (List.mem_append_left _ (List.mem_of_getElem? (l := wsC_4) (i := 1) rfl)))))
theorem wsCw_102 : (.selects RJx4a65c yJx4a65c_grow_92f84 yJx4a65c_grow_92f84 : Cond) ∈ wsC := List.mem_append_right _ (List.mem_append_right _ (List.mem_append_right _ (List.mem_append_right _ (List.mem_append_left _ (List.mem_of_getElem? (l := wsC_4) (i := 2) rfl)))))
theorem wsCw_103 : (.code yJx4a65c_grow_92f84 cJx4a65c_grow_92f84 4 (some (.array (.object "java/lang/Object"))) : Cond) ∈ wsC := List.mem_append_right _ (List.mem_append_right _ (List.mem_append_right _ (List.mem_append_right _ (List.mem_append_left _ (List.mem_of_getElem? (l := wsC_4) (i := 3) rfl)))))
theorem wsCw_104 : (.methodLink RJx4a65c 129 yJx4a65c_grow_d5877 : Cond) ∈ wsC := List.mem_append_right _ (List.mem_append_right _ (List.mem_append_right _ (List.mem_append_right _ (List.mem_append_left _ (List.mem_of_getElem? (l := wsC_4) (i := 4) rfl)))))
theorem wsCw_105 : (.instanceMethod yJx4a65c_grow_d5877 : Cond) ∈ wsC := List.mem_append_right _ (List.mem_append_right _ (List.mem_append_right _ (List.mem_append_right _ (List.mem_append_left _ (List.mem_of_getElem? (l := wsC_4) (i := 5) rfl)))))
theorem wsCw_106 : (.selects RJx4a65c yJx4a65c_grow_d5877 yJx4a65c_grow_d5877 : Cond) ∈ wsC := List.mem_append_right _ (List.mem_append_right _ (List.mem_append_right _ (List.mem_append_right _ (List.mem_append_left _ (List.mem_of_getElem? (l := wsC_4) (i := 6) rfl)))))
theorem wsCw_107 : (.code yJx4a65c_grow_d5877 cJx4a65c_grow_d5877 1 (some (.array (.object "java/lang/Object"))) : Cond) ∈ wsC := List.mem_append_right _ (List.mem_append_right _ (List.mem_append_right _ (List.mem_append_right _ (List.mem_append_left _ (List.mem_of_getElem? (l := wsC_4) (i := 7) rfl)))))
theorem wsCw_108 : (.fieldLink RJx4a65c 63 "java/util/ArrayList" "modCount" "I" : Cond) ∈ wsC := List.mem_append_right _ (List.mem_append_right _ (List.mem_append_right _ (List.mem_append_right _ (List.mem_append_left _ (List.mem_of_getElem? (l := wsC_4) (i := 8) rfl)))))
theorem wsCw_109 : (.sameField "java/util/ArrayList" "java/util/AbstractList" "modCount" "I" : Cond) ∈ wsC := List.mem_append_right _ (List.mem_append_right _ (List.mem_append_right _ (List.mem_append_right _ (List.mem_append_left _ (List.mem_of_getElem? (l := wsC_4) (i := 9) rfl)))))
theorem wsCw_110 : (.methodLink RJx4a65c 131 yJx4a65c_add_72be8 : Cond) ∈ wsC := List.mem_append_right _ (List.mem_append_right _ (List.mem_append_right _ (List.mem_append_right _ (List.mem_append_left _ (List.mem_of_getElem? (l := wsC_4) (i := 10) rfl)))))
theorem wsCw_111 : (.instanceMethod yJx4a65c_add_72be8 : Cond) ∈ wsC := List.mem_append_right _ (List.mem_append_right _ (List.mem_append_right _ (List.mem_append_right _ (List.mem_append_left _ (List.mem_of_getElem? (l := wsC_4) (i := 11) rfl)))))
theorem wsCw_112 : (.selects RJx4a65c yJx4a65c_add_72be8 yJx4a65c_add_72be8 : Cond) ∈ wsC := List.mem_append_right _ (List.mem_append_right _ (List.mem_append_right _ (List.mem_append_right _ (List.mem_append_left _ (List.mem_of_getElem? (l := wsC_4) (i := 12) rfl)))))
theorem wsCw_113 : (.code yJx4a65c_add_72be8 cJx4a65c_add_72be8 4 none : Cond) ∈ wsC := List.mem_append_right _ (List.mem_append_right _ (List.mem_append_right _ (List.mem_append_right _ (List.mem_append_left _ (List.mem_of_getElem? (l := wsC_4) (i := 13) rfl)))))
theorem wsCw_114 : (.methodLink RX3 18 yJx4a65c_size_8abf5 : Cond) ∈ wsC := List.mem_append_right _ (List.mem_append_right _ (List.mem_append_right _ (List.mem_append_right _ (List.mem_append_left _ (List.mem_of_getElem? (l := wsC_4) (i := 14) rfl)))))
theorem wsCw_115 : (.instanceMethod yJx4a65c_size_8abf5 : Cond) ∈ wsC := List.mem_append_right _ (List.mem_append_right _ (List.mem_append_right _ (List.mem_append_right _ (List.mem_append_left _ (List.mem_of_getElem? (l := wsC_4) (i := 15) rfl)))))
theorem wsCw_116 : (.selects RJx4a65c yJx4a65c_size_8abf5 yJx4a65c_size_8abf5 : Cond) ∈ wsC := List.mem_append_right _ (List.mem_append_right _ (List.mem_append_right _ (List.mem_append_right _ (List.mem_append_left _ (List.mem_of_getElem? (l := wsC_4) (i := 16) rfl)))))
theorem wsCw_117 : (.code yJx4a65c_size_8abf5 cJx4a65c_size_8abf5 1 (some .int) : Cond) ∈ wsC := List.mem_append_right _ (List.mem_append_right _ (List.mem_append_right _ (List.mem_append_right _ (List.mem_append_left _ (List.mem_of_getElem? (l := wsC_4) (i := 17) rfl)))))
theorem wsCw_118 : (.methodLink RX3 28 yJx4a65c_add_9ea2d : Cond) ∈ wsC := List.mem_append_right _ (List.mem_append_right _ (List.mem_append_right _ (List.mem_append_right _ (List.mem_append_left _ (List.mem_of_getElem? (l := wsC_4) (i := 18) rfl)))))
theorem wsCw_119 : (.instanceMethod yJx4a65c_add_9ea2d : Cond) ∈ wsC := List.mem_append_right _ (List.mem_append_right _ (List.mem_append_right _ (List.mem_append_right _ (List.mem_append_left _ (List.mem_of_getElem? (l := wsC_4) (i := 19) rfl)))))
theorem wsCw_120 : (.selects RJx4a65c yJx4a65c_add_9ea2d yJx4a65c_add_9ea2d : Cond) ∈ wsC := List.mem_append_right _ (List.mem_append_right _ (List.mem_append_right _ (List.mem_append_right _ (List.mem_append_left _ (List.mem_of_getElem? (l := wsC_4) (i := 20) rfl)))))
theorem wsCw_121 : (.code yJx4a65c_add_9ea2d cJx4a65c_add_9ea2d 2 (some .boolean) : Cond) ∈ wsC := List.mem_append_right _ (List.mem_append_right _ (List.mem_append_right _ (List.mem_append_right _ (List.mem_append_left _ (List.mem_of_getElem? (l := wsC_4) (i := 21) rfl)))))
theorem wsCw_122 : (.classLink RX0 57 RX5 : Cond) ∈ wsC := List.mem_append_right _ (List.mem_append_right _ (List.mem_append_right _ (List.mem_append_right _ (List.mem_append_left _ (List.mem_of_getElem? (l := wsC_4) (i := 22) rfl)))))
theorem wsCw_123 : (.instantiable RX5 5 : Cond) ∈ wsC := List.mem_append_right _ (List.mem_append_right _ (List.mem_append_right _ (List.mem_append_right _ (List.mem_append_left _ (List.mem_of_getElem? (l := wsC_4) (i := 23) rfl)))))
theorem wsCw_124 : (.initialized RX5 : Cond) ∈ wsC := List.mem_append_right _ (List.mem_append_right _ (List.mem_append_right _ (List.mem_append_right _ (List.mem_append_left _ (List.mem_of_getElem? (l := wsC_4) (i := 24) rfl)))))
theorem wsCw_125 : (.methodLink RX0 54 yX9_add : Cond) ∈ wsC := List.mem_append_right _ (List.mem_append_right _ (List.mem_append_right _ (List.mem_append_right _ (List.mem_append_right _ (List.mem_append_left _ (List.mem_of_getElem? (l := wsC_5) (i := 0) rfl))))))
theorem wsCw_126 : (.instanceMethod yX9_add : Cond) ∈ wsC := List.mem_append_right _ (List.mem_append_right _ (List.mem_append_right _ (List.mem_append_right _ (List.mem_append_right _ (List.mem_append_left _ (List.mem_of_getElem? (l := wsC_5) (i := 1) rfl))))))
theorem wsCw_127 : (.selects RX9 yX9_add yX9_add : Cond) ∈ wsC := List.mem_append_right _ (List.mem_append_right _ (List.mem_append_right _ (List.mem_append_right _ (List.mem_append_right _ (List.mem_append_left _ (List.mem_of_getElem? (l := wsC_5) (i := 2) rfl))))))
theorem wsCw_128 : (.code yX9_add cX9_add 4 none : Cond) ∈ wsC := List.mem_append_right _ (List.mem_append_right _ (List.mem_append_right _ (List.mem_append_right _ (List.mem_append_right _ (List.mem_append_left _ (List.mem_of_getElem? (l := wsC_5) (i := 3) rfl))))))
theorem wsCw_129 : (.methodLink RX0 59 yX5_init : Cond) ∈ wsC := List.mem_append_right _ (List.mem_append_right _ (List.mem_append_right _ (List.mem_append_right _ (List.mem_append_right _ (List.mem_append_left _ (List.mem_of_getElem? (l := wsC_5) (i := 4) rfl))))))
theorem wsCw_130 : (.instanceMethod yX5_init : Cond) ∈ wsC := List.mem_append_right _ (List.mem_append_right _ (List.mem_append_right _ (List.mem_append_right _ (List.mem_append_right _ (List.mem_append_left _ (List.mem_of_getElem? (l := wsC_5) (i := 5) rfl))))))
theorem wsCw_131 : (.code yX5_init cX5_init 7 none : Cond) ∈ wsC := List.mem_append_right _ (List.mem_append_right _ (List.mem_append_right _ (List.mem_append_right _ (List.mem_append_right _ (List.mem_append_left _ (List.mem_of_getElem? (l := wsC_5) (i := 6) rfl))))))
theorem wsCw_132 : (.methodLink RX0 62 yX3_keep : Cond) ∈ wsC := List.mem_append_right _ (List.mem_append_right _ (List.mem_append_right _ (List.mem_append_right _ (List.mem_append_right _ (List.mem_append_left _ (List.mem_of_getElem? (l := wsC_5) (i := 7) rfl))))))
theorem wsCw_133 : (.instanceMethod yX3_keep : Cond) ∈ wsC := List.mem_append_right _ (List.mem_append_right _ (List.mem_append_right _ (List.mem_append_right _ (List.mem_append_right _ (List.mem_append_left _ (List.mem_of_getElem? (l := wsC_5) (i := 8) rfl))))))
theorem wsCw_134 : (.selects RX3 yX3_keep yX3_keep : Cond) ∈ wsC := List.mem_append_right _ (List.mem_append_right _ (List.mem_append_right _ (List.mem_append_right _ (List.mem_append_right _ (List.mem_append_left _ (List.mem_of_getElem? (l := wsC_5) (i := 9) rfl))))))
theorem wsCw_135 : (.code yX3_keep cX3_keep 2 none : Cond) ∈ wsC := List.mem_append_right _ (List.mem_append_right _ (List.mem_append_right _ (List.mem_append_right _ (List.mem_append_right _ (List.mem_append_left _ (List.mem_of_getElem? (l := wsC_5) (i := 10) rfl))))))
theorem wsCw_136 : (.fieldLink RX0 66 "MillstreamPayments$Terms" "from" "I" : Cond) ∈ wsC := List.mem_append_right _ (List.mem_append_right _ (List.mem_append_right _ (List.mem_append_right _ (List.mem_append_right _ (List.mem_append_left _ (List.mem_of_getElem? (l := wsC_5) (i := 11) rfl))))))
theorem wsCw_137 : (.fieldLink RX0 72 "MillstreamPayments$Terms" "to" "I" : Cond) ∈ wsC := List.mem_append_right _ (List.mem_append_right _ (List.mem_append_right _ (List.mem_append_right _ (List.mem_append_right _ (List.mem_append_left _ (List.mem_of_getElem? (l := wsC_5) (i := 12) rfl))))))
theorem wsCw_138 : (.fieldLink RX0 75 "MillstreamPayments$Terms" "currency" "I" : Cond) ∈ wsC := List.mem_append_right _ (List.mem_append_right _ (List.mem_append_right _ (List.mem_append_right _ (List.mem_append_right _ (List.mem_append_left _ (List.mem_of_getElem? (l := wsC_5) (i := 13) rfl))))))
theorem wsCw_139 : (.fieldLink RX0 78 "MillstreamPayments$Terms" "amount" "I" : Cond) ∈ wsC := List.mem_append_right _ (List.mem_append_right _ (List.mem_append_right _ (List.mem_append_right _ (List.mem_append_right _ (List.mem_append_left _ (List.mem_of_getElem? (l := wsC_5) (i := 14) rfl))))))
theorem wsCw_140 : (.methodLink RX0 81 yX0_move : Cond) ∈ wsC := List.mem_append_right _ (List.mem_append_right _ (List.mem_append_right _ (List.mem_append_right _ (List.mem_append_right _ (List.mem_append_left _ (List.mem_of_getElem? (l := wsC_5) (i := 15) rfl))))))
theorem wsCw_141 : (.instanceMethod yX0_move : Cond) ∈ wsC := List.mem_append_right _ (List.mem_append_right _ (List.mem_append_right _ (List.mem_append_right _ (List.mem_append_right _ (List.mem_append_left _ (List.mem_of_getElem? (l := wsC_5) (i := 16) rfl))))))
theorem wsCw_142 : (.selects RX0 yX0_move yX0_move : Cond) ∈ wsC := List.mem_append_right _ (List.mem_append_right _ (List.mem_append_right _ (List.mem_append_right _ (List.mem_append_right _ (List.mem_append_left _ (List.mem_of_getElem? (l := wsC_5) (i := 17) rfl))))))
theorem wsCw_143 : (.initialized RX0 : Cond) ∈ wsC := List.mem_append_right _ (List.mem_append_right _ (List.mem_append_right _ (List.mem_append_right _ (List.mem_append_right _ (List.mem_append_left _ (List.mem_of_getElem? (l := wsC_5) (i := 18) rfl))))))
theorem wsCw_144 : (.code yX0_move cX0_move 7 none : Cond) ∈ wsC := List.mem_append_right _ (List.mem_append_right _ (List.mem_append_right _ (List.mem_append_right _ (List.mem_append_right _ (List.mem_append_left _ (List.mem_of_getElem? (l := wsC_5) (i := 19) rfl))))))
theorem wsCw_145 : (.static yX11_pairSlot : Cond) ∈ wsC := List.mem_append_right _ (List.mem_append_right _ (List.mem_append_right _ (List.mem_append_right _ (List.mem_append_right _ (List.mem_append_left _ (List.mem_of_getElem? (l := wsC_5) (i := 20) rfl))))))
theorem wsCw_146 : (.code yX11_pairSlot cX11_pairSlot 3 (some .int) : Cond) ∈ wsC := List.mem_append_right _ (List.mem_append_right _ (List.mem_append_right _ (List.mem_append_right _ (List.mem_append_right _ (List.mem_append_left _ (List.mem_of_getElem? (l := wsC_5) (i := 21) rfl))))))
theorem wsCw_147 : (.methodLink RX1 3 objectInit : Cond) ∈ wsC := List.mem_append_right _ (List.mem_append_right _ (List.mem_append_right _ (List.mem_append_right _ (List.mem_append_right _ (List.mem_append_left _ (List.mem_of_getElem? (l := wsC_5) (i := 22) rfl))))))
theorem wsCw_148 : (.classLink RX1 9 RX9 : Cond) ∈ wsC := List.mem_append_right _ (List.mem_append_right _ (List.mem_append_right _ (List.mem_append_right _ (List.mem_append_right _ (List.mem_append_left _ (List.mem_of_getElem? (l := wsC_5) (i := 23) rfl))))))
theorem wsCw_149 : (.fieldLink RX1 14 "MillstreamPayments$Advices" "told" "LMillstreamPayments$Row;" : Cond) ∈ wsC := List.mem_append_right _ (List.mem_append_right _ (List.mem_append_right _ (List.mem_append_right _ (List.mem_append_right _ (List.mem_append_left _ (List.mem_of_getElem? (l := wsC_5) (i := 24) rfl))))))
theorem wsCw_150 : (.fieldLink RX1 20 "MillstreamPayments$Advices" "counts" "LMillstreamPayments$Row;" : Cond) ∈ wsC := List.mem_append_right _ (List.mem_append_right _ (List.mem_append_right _ (List.mem_append_right _ (List.mem_append_right _ (List.mem_append_right _ (List.mem_append_left _ (List.mem_of_getElem? (l := wsC_6) (i := 0) rfl)))))))
theorem wsCw_151 : (.fieldLink RX1 23 "MillstreamPayments$Advices" "taken" "LMillstreamPayments$Row;" : Cond) ∈ wsC := List.mem_append_right _ (List.mem_append_right _ (List.mem_append_right _ (List.mem_append_right _ (List.mem_append_right _ (List.mem_append_right _ (List.mem_append_left _ (List.mem_of_getElem? (l := wsC_6) (i := 1) rfl)))))))
theorem wsCw_152 : (.fieldLink RX1 26 "MillstreamPayments$Advices" "most" "LMillstreamPayments$Row;" : Cond) ∈ wsC := List.mem_append_right _ (List.mem_append_right _ (List.mem_append_right _ (List.mem_append_right _ (List.mem_append_right _ (List.mem_append_right _ (List.mem_append_left _ (List.mem_of_getElem? (l := wsC_6) (i := 2) rfl)))))))
theorem wsCw_153 : (.methodLink RX1 11 yX9_init : Cond) ∈ wsC := List.mem_append_right _ (List.mem_append_right _ (List.mem_append_right _ (List.mem_append_right _ (List.mem_append_right _ (List.mem_append_right _ (List.mem_append_left _ (List.mem_of_getElem? (l := wsC_6) (i := 3) rfl)))))))
theorem wsCw_154 : (.constantLong RX1 33 (60) : Cond) ∈ wsC := List.mem_append_right _ (List.mem_append_right _ (List.mem_append_right _ (List.mem_append_right _ (List.mem_append_right _ (List.mem_append_right _ (List.mem_append_left _ (List.mem_of_getElem? (l := wsC_6) (i := 4) rfl)))))))
theorem wsCw_155 : (.methodLink RX1 29 yX9_at : Cond) ∈ wsC := List.mem_append_right _ (List.mem_append_right _ (List.mem_append_right _ (List.mem_append_right _ (List.mem_append_right _ (List.mem_append_right _ (List.mem_append_left _ (List.mem_of_getElem? (l := wsC_6) (i := 5) rfl)))))))
theorem wsCw_156 : (.methodLink RX1 35 yX9_put : Cond) ∈ wsC := List.mem_append_right _ (List.mem_append_right _ (List.mem_append_right _ (List.mem_append_right _ (List.mem_append_right _ (List.mem_append_right _ (List.mem_append_left _ (List.mem_of_getElem? (l := wsC_6) (i := 6) rfl)))))))
theorem wsCw_157 : (.methodLink RX1 39 yX9_add : Cond) ∈ wsC := List.mem_append_right _ (List.mem_append_right _ (List.mem_append_right _ (List.mem_append_right _ (List.mem_append_right _ (List.mem_append_right _ (List.mem_append_left _ (List.mem_of_getElem? (l := wsC_6) (i := 7) rfl)))))))
theorem wsCw_158 : (.methodLink RX1 42 Lib.MathLoose.max_long.x : Cond) ∈ wsC := List.mem_append_right _ (List.mem_append_right _ (List.mem_append_right _ (List.mem_append_right _ (List.mem_append_right _ (List.mem_append_right _ (List.mem_append_left _ (List.mem_of_getElem? (l := wsC_6) (i := 8) rfl)))))))
theorem wsCw_159 : (.static Lib.MathLoose.max_long.x : Cond) ∈ wsC := List.mem_append_right _ (List.mem_append_right _ (List.mem_append_right _ (List.mem_append_right _ (List.mem_append_right _ (List.mem_append_right _ (List.mem_append_left _ (List.mem_of_getElem? (l := wsC_6) (i := 9) rfl)))))))
theorem wsCw_160 : (.code Lib.MathLoose.max_long.x Lib.MathLoose.max_long.code 4 (some .long) : Cond) ∈ wsC := List.mem_append_right _ (List.mem_append_right _ (List.mem_append_right _ (List.mem_append_right _ (List.mem_append_right _ (List.mem_append_right _ (List.mem_append_left _ (List.mem_of_getElem? (l := wsC_6) (i := 10) rfl)))))))
theorem wsCw_161 : (.methodLink RX2 3 objectInit : Cond) ∈ wsC := List.mem_append_right _ (List.mem_append_right _ (List.mem_append_right _ (List.mem_append_right _ (List.mem_append_right _ (List.mem_append_right _ (List.mem_append_left _ (List.mem_of_getElem? (l := wsC_6) (i := 11) rfl)))))))
theorem wsCw_162 : (.classLink RX2 9 RX9 : Cond) ∈ wsC := List.mem_append_right _ (List.mem_append_right _ (List.mem_append_right _ (List.mem_append_right _ (List.mem_append_right _ (List.mem_append_right _ (List.mem_append_left _ (List.mem_of_getElem? (l := wsC_6) (i := 12) rfl)))))))
theorem wsCw_163 : (.fieldLink RX2 14 "MillstreamPayments$Batch" "members" "LMillstreamPayments$Row;" : Cond) ∈ wsC := List.mem_append_right _ (List.mem_append_right _ (List.mem_append_right _ (List.mem_append_right _ (List.mem_append_right _ (List.mem_append_right _ (List.mem_append_left _ (List.mem_of_getElem? (l := wsC_6) (i := 13) rfl)))))))
theorem wsCw_164 : (.fieldLink RX2 20 "MillstreamPayments$Batch" "changes" "LMillstreamPayments$Row;" : Cond) ∈ wsC := List.mem_append_right _ (List.mem_append_right _ (List.mem_append_right _ (List.mem_append_right _ (List.mem_append_right _ (List.mem_append_right _ (List.mem_append_left _ (List.mem_of_getElem? (l := wsC_6) (i := 14) rfl)))))))
theorem wsCw_165 : (.fieldLink RX2 23 "MillstreamPayments$Batch" "flows" "LMillstreamPayments$Row;" : Cond) ∈ wsC := List.mem_append_right _ (List.mem_append_right _ (List.mem_append_right _ (List.mem_append_right _ (List.mem_append_right _ (List.mem_append_right _ (List.mem_append_left _ (List.mem_of_getElem? (l := wsC_6) (i := 15) rfl)))))))
theorem wsCw_166 : (.methodLink RX2 11 yX9_init : Cond) ∈ wsC := List.mem_append_right _ (List.mem_append_right _ (List.mem_append_right _ (List.mem_append_right _ (List.mem_append_right _ (List.mem_append_right _ (List.mem_append_left _ (List.mem_of_getElem? (l := wsC_6) (i := 16) rfl)))))))
theorem wsCw_167 : (.methodLink RX2 26 yX9_fill : Cond) ∈ wsC := List.mem_append_right _ (List.mem_append_right _ (List.mem_append_right _ (List.mem_append_right _ (List.mem_append_right _ (List.mem_append_right _ (List.mem_append_left _ (List.mem_of_getElem? (l := wsC_6) (i := 17) rfl)))))))
theorem wsCw_168 : (.fieldLink RX2 30 "MillstreamPayments$Payment" "number" "I" : Cond) ∈ wsC := List.mem_append_right _ (List.mem_append_right _ (List.mem_append_right _ (List.mem_append_right _ (List.mem_append_right _ (List.mem_append_right _ (List.mem_append_left _ (List.mem_of_getElem? (l := wsC_6) (i := 18) rfl)))))))
theorem wsCw_169 : (.methodLink RX2 36 yX9_isSet : Cond) ∈ wsC := List.mem_append_right _ (List.mem_append_right _ (List.mem_append_right _ (List.mem_append_right _ (List.mem_append_right _ (List.mem_append_right _ (List.mem_append_left _ (List.mem_of_getElem? (l := wsC_6) (i := 19) rfl)))))))
theorem wsCw_170 : (.instanceMethod yX9_isSet : Cond) ∈ wsC := List.mem_append_right _ (List.mem_append_right _ (List.mem_append_right _ (List.mem_append_right _ (List.mem_append_right _ (List.mem_append_right _ (List.mem_append_left _ (List.mem_of_getElem? (l := wsC_6) (i := 20) rfl)))))))
theorem wsCw_171 : (.selects RX9 yX9_isSet yX9_isSet : Cond) ∈ wsC := List.mem_append_right _ (List.mem_append_right _ (List.mem_append_right _ (List.mem_append_right _ (List.mem_append_right _ (List.mem_append_right _ (List.mem_append_left _ (List.mem_of_getElem? (l := wsC_6) (i := 21) rfl)))))))
theorem wsCw_172 : (.code yX9_isSet cX9_isSet 2 (some .boolean) : Cond) ∈ wsC := List.mem_append_right _ (List.mem_append_right _ (List.mem_append_right _ (List.mem_append_right _ (List.mem_append_right _ (List.mem_append_right _ (List.mem_append_left _ (List.mem_of_getElem? (l := wsC_6) (i := 22) rfl)))))))
theorem wsCw_173 : (.methodLink RX9 19 yX9_put : Cond) ∈ wsC := List.mem_append_right _ (List.mem_append_right _ (List.mem_append_right _ (List.mem_append_right _ (List.mem_append_right _ (List.mem_append_right _ (List.mem_append_left _ (List.mem_of_getElem? (l := wsC_6) (i := 23) rfl)))))))
theorem wsCw_174 : (.fieldLink RX2 57 "MillstreamPayments$Terms" "from" "I" : Cond) ∈ wsC := List.mem_append_right _ (List.mem_append_right _ (List.mem_append_right _ (List.mem_append_right _ (List.mem_append_right _ (List.mem_append_right _ (List.mem_append_left _ (List.mem_of_getElem? (l := wsC_6) (i := 24) rfl)))))))
theorem wsCw_175 : (.fieldLink RX2 60 "MillstreamPayments$Terms" "currency" "I" : Cond) ∈ wsC := List.mem_append_right _ (List.mem_append_right _ (List.mem_append_right _ (List.mem_append_right _ (List.mem_append_right _ (List.mem_append_right _ (List.mem_append_right _ (List.mem_append_left _ (List.mem_of_getElem? (l := wsC_7) (i := 0) rfl))))))))
theorem wsCw_176 : (.fieldLink RX2 71 "MillstreamPayments$Terms" "to" "I" : Cond) ∈ wsC := List.mem_append_right _ (List.mem_append_right _ (List.mem_append_right _ (List.mem_append_right _ (List.mem_append_right _ (List.mem_append_right _ (List.mem_append_right _ (List.mem_append_left _ (List.mem_of_getElem? (l := wsC_7) (i := 1) rfl))))))))
theorem wsCw_177 : (.methodLink RX2 67 yX9_add : Cond) ∈ wsC := List.mem_append_right _ (List.mem_append_right _ (List.mem_append_right _ (List.mem_append_right _ (List.mem_append_right _ (List.mem_append_right _ (List.mem_append_right _ (List.mem_append_left _ (List.mem_of_getElem? (l := wsC_7) (i := 2) rfl))))))))
theorem wsCw_178 : (.fieldLink RX2 44 "MillstreamPayments$Payment" "terms" "LMillstreamPayments$Terms;" : Cond) ∈ wsC := List.mem_append_right _ (List.mem_append_right _ (List.mem_append_right _ (List.mem_append_right _ (List.mem_append_right _ (List.mem_append_right _ (List.mem_append_right _ (List.mem_append_left _ (List.mem_of_getElem? (l := wsC_7) (i := 3) rfl))))))))
theorem wsCw_179 : (.fieldLink RX2 48 "MillstreamPayments$Terms" "amount" "I" : Cond) ∈ wsC := List.mem_append_right _ (List.mem_append_right _ (List.mem_append_right _ (List.mem_append_right _ (List.mem_append_right _ (List.mem_append_right _ (List.mem_append_right _ (List.mem_append_left _ (List.mem_of_getElem? (l := wsC_7) (i := 4) rfl))))))))
theorem wsCw_180 : (.methodLink RX2 40 yX9_mark : Cond) ∈ wsC := List.mem_append_right _ (List.mem_append_right _ (List.mem_append_right _ (List.mem_append_right _ (List.mem_append_right _ (List.mem_append_right _ (List.mem_append_right _ (List.mem_append_left _ (List.mem_of_getElem? (l := wsC_7) (i := 5) rfl))))))))
theorem wsCw_181 : (.instanceMethod yX9_mark : Cond) ∈ wsC := List.mem_append_right _ (List.mem_append_right _ (List.mem_append_right _ (List.mem_append_right _ (List.mem_append_right _ (List.mem_append_right _ (List.mem_append_right _ (List.mem_append_left _ (List.mem_of_getElem? (l := wsC_7) (i := 6) rfl))))))))
theorem wsCw_182 : (.selects RX9 yX9_mark yX9_mark : Cond) ∈ wsC := List.mem_append_right _ (List.mem_append_right _ (List.mem_append_right _ (List.mem_append_right _ (List.mem_append_right _ (List.mem_append_right _ (List.mem_append_right _ (List.mem_append_left _ (List.mem_of_getElem? (l := wsC_7) (i := 7) rfl))))))))
theorem wsCw_183 : (.code yX9_mark cX9_mark 3 none : Cond) ∈ wsC := List.mem_append_right _ (List.mem_append_right _ (List.mem_append_right _ (List.mem_append_right _ (List.mem_append_right _ (List.mem_append_right _ (List.mem_append_right _ (List.mem_append_left _ (List.mem_of_getElem? (l := wsC_7) (i := 8) rfl))))))))
theorem wsCw_184 : (.methodLink RX2 53 yX2_count : Cond) ∈ wsC := List.mem_append_right _ (List.mem_append_right _ (List.mem_append_right _ (List.mem_append_right _ (List.mem_append_right _ (List.mem_append_right _ (List.mem_append_right _ (List.mem_append_left _ (List.mem_of_getElem? (l := wsC_7) (i := 9) rfl))))))))
theorem wsCw_185 : (.instanceMethod yX2_count : Cond) ∈ wsC := List.mem_append_right _ (List.mem_append_right _ (List.mem_append_right _ (List.mem_append_right _ (List.mem_append_right _ (List.mem_append_right _ (List.mem_append_right _ (List.mem_append_left _ (List.mem_of_getElem? (l := wsC_7) (i := 10) rfl))))))))
theorem wsCw_186 : (.selects RX2 yX2_count yX2_count : Cond) ∈ wsC := List.mem_append_right _ (List.mem_append_right _ (List.mem_append_right _ (List.mem_append_right _ (List.mem_append_right _ (List.mem_append_right _ (List.mem_append_right _ (List.mem_append_left _ (List.mem_of_getElem? (l := wsC_7) (i := 11) rfl))))))))
theorem wsCw_187 : (.initialized RX2 : Cond) ∈ wsC := List.mem_append_right _ (List.mem_append_right _ (List.mem_append_right _ (List.mem_append_right _ (List.mem_append_right _ (List.mem_append_right _ (List.mem_append_right _ (List.mem_append_left _ (List.mem_of_getElem? (l := wsC_7) (i := 12) rfl))))))))
theorem wsCw_188 : (.code yX2_count cX2_count 4 none : Cond) ∈ wsC := List.mem_append_right _ (List.mem_append_right _ (List.mem_append_right _ (List.mem_append_right _ (List.mem_append_right _ (List.mem_append_right _ (List.mem_append_right _ (List.mem_append_left _ (List.mem_of_getElem? (l := wsC_7) (i := 13) rfl))))))))
theorem wsCw_189 : (.methodLink RX2 78 yX9_at : Cond) ∈ wsC := List.mem_append_right _ (List.mem_append_right _ (List.mem_append_right _ (List.mem_append_right _ (List.mem_append_right _ (List.mem_append_right _ (List.mem_append_right _ (List.mem_append_left _ (List.mem_of_getElem? (l := wsC_7) (i := 14) rfl))))))))
theorem wsCw_190 : (.methodLink RX2 82 yX0_isTooLowBy : Cond) ∈ wsC := List.mem_append_right _ (List.mem_append_right _ (List.mem_append_right _ (List.mem_append_right _ (List.mem_append_right _ (List.mem_append_right _ (List.mem_append_right _ (List.mem_append_left _ (List.mem_of_getElem? (l := wsC_7) (i := 15) rfl))))))))
theorem wsCw_191 : (.instanceMethod yX0_isTooLowBy : Cond) ∈ wsC := List.mem_append_right _ (List.mem_append_right _ (List.mem_append_right _ (List.mem_append_right _ (List.mem_append_right _ (List.mem_append_right _ (List.mem_append_right _ (List.mem_append_left _ (List.mem_of_getElem? (l := wsC_7) (i := 16) rfl))))))))
theorem wsCw_192 : (.selects RX0 yX0_isTooLowBy yX0_isTooLowBy : Cond) ∈ wsC := List.mem_append_right _ (List.mem_append_right _ (List.mem_append_right _ (List.mem_append_right _ (List.mem_append_right _ (List.mem_append_right _ (List.mem_append_right _ (List.mem_append_left _ (List.mem_of_getElem? (l := wsC_7) (i := 17) rfl))))))))
theorem wsCw_193 : (.code yX0_isTooLowBy cX0_isTooLowBy 4 (some .boolean) : Cond) ∈ wsC := List.mem_append_right _ (List.mem_append_right _ (List.mem_append_right _ (List.mem_append_right _ (List.mem_append_right _ (List.mem_append_right _ (List.mem_append_right _ (List.mem_append_left _ (List.mem_of_getElem? (l := wsC_7) (i := 18) rfl))))))))
theorem wsCw_194 : (.methodLink RX2 88 yX0_isPassedBy : Cond) ∈ wsC := List.mem_append_right _ (List.mem_append_right _ (List.mem_append_right _ (List.mem_append_right _ (List.mem_append_right _ (List.mem_append_right _ (List.mem_append_right _ (List.mem_append_left _ (List.mem_of_getElem? (l := wsC_7) (i := 19) rfl))))))))
theorem wsCw_195 : (.instanceMethod yX0_isPassedBy : Cond) ∈ wsC := List.mem_append_right _ (List.mem_append_right _ (List.mem_append_right _ (List.mem_append_right _ (List.mem_append_right _ (List.mem_append_right _ (List.mem_append_right _ (List.mem_append_left _ (List.mem_of_getElem? (l := wsC_7) (i := 20) rfl))))))))
theorem wsCw_196 : (.selects RX0 yX0_isPassedBy yX0_isPassedBy : Cond) ∈ wsC := List.mem_append_right _ (List.mem_append_right _ (List.mem_append_right _ (List.mem_append_right _ (List.mem_append_right _ (List.mem_append_right _ (List.mem_append_right _ (List.mem_append_left _ (List.mem_of_getElem? (l := wsC_7) (i := 21) rfl))))))))
theorem wsCw_197 : (.code yX0_isPassedBy cX0_isPassedBy 6 (some .boolean) : Cond) ∈ wsC := List.mem_append_right _ (List.mem_append_right _ (List.mem_append_right _ (List.mem_append_right _ (List.mem_append_right _ (List.mem_append_right _ (List.mem_append_right _ (List.mem_append_left _ (List.mem_of_getElem? (l := wsC_7) (i := 22) rfl))))))))
theorem wsCw_198 : (.methodLink RX2 91 yX2_lowestTooLow : Cond) ∈ wsC := List.mem_append_right _ (List.mem_append_right _ (List.mem_append_right _ (List.mem_append_right _ (List.mem_append_right _ (List.mem_append_right _ (List.mem_append_right _ (List.mem_append_left _ (List.mem_of_getElem? (l := wsC_7) (i := 23) rfl))))))))
theorem wsCw_199 : (.instanceMethod yX2_lowestTooLow : Cond) ∈ wsC := List.mem_append_right _ (List.mem_append_right _ (List.mem_append_right _ (List.mem_append_right _ (List.mem_append_right _ (List.mem_append_right _ (List.mem_append_right _ (List.mem_append_left _ (List.mem_of_getElem? (l := wsC_7) (i := 24) rfl))))))))
theorem wsCw_200 : (.selects RX2 yX2_lowestTooLow yX2_lowestTooLow : Cond) ∈ wsC := List.mem_append_right _ (List.mem_append_right _ (List.mem_append_right _ (List.mem_append_right _ (List.mem_append_right _ (List.mem_append_right _ (List.mem_append_right _ (List.mem_append_right _ (List.mem_append_left _ (List.mem_of_getElem? (l := wsC_8) (i := 0) rfl)))))))))
theorem wsCw_201 : (.code yX2_lowestTooLow cX2_lowestTooLow 5 (some .int) : Cond) ∈ wsC := List.mem_append_right _ (List.mem_append_right _ (List.mem_append_right _ (List.mem_append_right _ (List.mem_append_right _ (List.mem_append_right _ (List.mem_append_right _ (List.mem_append_right _ (List.mem_append_left _ (List.mem_of_getElem? (l := wsC_8) (i := 1) rfl)))))))))
theorem wsCw_202 : (.methodLink RX2 95 yX2_passesLimit : Cond) ∈ wsC := List.mem_append_right _ (List.mem_append_right _ (List.mem_append_right _ (List.mem_append_right _ (List.mem_append_right _ (List.mem_append_right _ (List.mem_append_right _ (List.mem_append_right _ (List.mem_append_left _ (List.mem_of_getElem? (l := wsC_8) (i := 2) rfl)))))))))
theorem wsCw_203 : (.instanceMethod yX2_passesLimit : Cond) ∈ wsC := List.mem_append_right _ (List.mem_append_right _ (List.mem_append_right _ (List.mem_append_right _ (List.mem_append_right _ (List.mem_append_right _ (List.mem_append_right _ (List.mem_append_right _ (List.mem_append_left _ (List.mem_of_getElem? (l := wsC_8) (i := 3) rfl)))))))))
theorem wsCw_204 : (.selects RX2 yX2_passesLimit yX2_passesLimit : Cond) ∈ wsC := List.mem_append_right _ (List.mem_append_right _ (List.mem_append_right _ (List.mem_append_right _ (List.mem_append_right _ (List.mem_append_right _ (List.mem_append_right _ (List.mem_append_right _ (List.mem_append_left _ (List.mem_of_getElem? (l := wsC_8) (i := 4) rfl)))))))))
theorem wsCw_205 : (.code yX2_passesLimit cX2_passesLimit 6 (some .boolean) : Cond) ∈ wsC := List.mem_append_right _ (List.mem_append_right _ (List.mem_append_right _ (List.mem_append_right _ (List.mem_append_right _ (List.mem_append_right _ (List.mem_append_right _ (List.mem_append_right _ (List.mem_append_left _ (List.mem_of_getElem? (l := wsC_8) (i := 5) rfl)))))))))
theorem wsCw_206 : (.methodLink RJ15 105 yJ3_checkIndex_8e157 : Cond) ∈ wsC := List.mem_append_right _ (List.mem_append_right _ (List.mem_append_right _ (List.mem_append_right _ (List.mem_append_right _ (List.mem_append_right _ (List.mem_append_right _ (List.mem_append_right _ (List.mem_append_left _ (List.mem_of_getElem? (l := wsC_8) (i := 6) rfl)))))))))
theorem wsCw_207 : (.static yJ3_checkIndex_8e157 : Cond) ∈ wsC := List.mem_append_right _ (List.mem_append_right _ (List.mem_append_right _ (List.mem_append_right _ (List.mem_append_right _ (List.mem_append_right _ (List.mem_append_right _ (List.mem_append_right _ (List.mem_append_left _ (List.mem_of_getElem? (l := wsC_8) (i := 7) rfl)))))))))
theorem wsCw_208 : (.initialized RJ3 : Cond) ∈ wsC := List.mem_append_right _ (List.mem_append_right _ (List.mem_append_right _ (List.mem_append_right _ (List.mem_append_right _ (List.mem_append_right _ (List.mem_append_right _ (List.mem_append_right _ (List.mem_append_left _ (List.mem_of_getElem? (l := wsC_8) (i := 8) rfl)))))))))
theorem wsCw_209 : (.code yJ3_checkIndex_8e157 cJ3_checkIndex_8e157 3 (some .int) : Cond) ∈ wsC := List.mem_append_right _ (List.mem_append_right _ (List.mem_append_right _ (List.mem_append_right _ (List.mem_append_right _ (List.mem_append_right _ (List.mem_append_right _ (List.mem_append_right _ (List.mem_append_left _ (List.mem_of_getElem? (l := wsC_8) (i := 9) rfl)))))))))
theorem wsCw_210 : (.methodLink RJx4a65c 118 yJ15_checkIndex_7cf53 : Cond) ∈ wsC := List.mem_append_right _ (List.mem_append_right _ (List.mem_append_right _ (List.mem_append_right _ (List.mem_append_right _ (List.mem_append_right _ (List.mem_append_right _ (List.mem_append_right _ (List.mem_append_left _ (List.mem_of_getElem? (l := wsC_8) (i := 10) rfl)))))))))
theorem wsCw_211 : (.static yJ15_checkIndex_7cf53 : Cond) ∈ wsC := List.mem_append_right _ (List.mem_append_right _ (List.mem_append_right _ (List.mem_append_right _ (List.mem_append_right _ (List.mem_append_right _ (List.mem_append_right _ (List.mem_append_right _ (List.mem_append_left _ (List.mem_of_getElem? (l := wsC_8) (i := 11) rfl)))))))))
theorem wsCw_212 : (.initialized RJ15 : Cond) ∈ wsC := List.mem_append_right _ (List.mem_append_right _ (List.mem_append_right _ (List.mem_append_right _ (List.mem_append_right _ (List.mem_append_right _ (List.mem_append_right _ (List.mem_append_right _ (List.mem_append_left _ (List.mem_of_getElem? (l := wsC_8) (i := 12) rfl)))))))))
theorem wsCw_213 : (.code yJ15_checkIndex_7cf53 cJ15_checkIndex_7cf53 2 (some .int) : Cond) ∈ wsC := List.mem_append_right _ (List.mem_append_right _ (List.mem_append_right _ (List.mem_append_right _ (List.mem_append_right _ (List.mem_append_right _ (List.mem_append_right _ (List.mem_append_right _ (List.mem_append_left _ (List.mem_of_getElem? (l := wsC_8) (i := 13) rfl)))))))))
theorem wsCw_214 : (.methodLink RJx4a65c 123 yJx4a65c_elementData_915e3 : Cond) ∈ wsC := List.mem_append_right _ (List.mem_append_right _ (List.mem_append_right _ (List.mem_append_right _ (List.mem_append_right _ (List.mem_append_right _ (List.mem_append_right _ (List.mem_append_right _ (List.mem_append_left _ (List.mem_of_getElem? (l := wsC_8) (i := 14) rfl)))))))))
theorem wsCw_215 : (.instanceMethod yJx4a65c_elementData_915e3 : Cond) ∈ wsC := List.mem_append_right _ (List.mem_append_right _ (List.mem_append_right _ (List.mem_append_right _ (List.mem_append_right _ (List.mem_append_right _ (List.mem_append_right _ (List.mem_append_right _ (List.mem_append_left _ (List.mem_of_getElem? (l := wsC_8) (i := 15) rfl)))))))))
theorem wsCw_216 : (.selects RJx4a65c yJx4a65c_elementData_915e3 yJx4a65c_elementData_915e3 : Cond) ∈ wsC := List.mem_append_right _ (List.mem_append_right _ (List.mem_append_right _ (List.mem_append_right _ (List.mem_append_right _ (List.mem_append_right _ (List.mem_append_right _ (List.mem_append_right _ (List.mem_append_left _ (List.mem_of_getElem? (l := wsC_8) (i := 16) rfl)))))))))
theorem wsCw_217 : (.code yJx4a65c_elementData_915e3 cJx4a65c_elementData_915e3 2 (some (.object "java/lang/Object")) : Cond) ∈ wsC := List.mem_append_right _ (List.mem_append_right _ (List.mem_append_right _ (List.mem_append_right _ (List.mem_append_right _ (List.mem_append_right _ (List.mem_append_right _ (List.mem_append_right _ (List.mem_append_left _ (List.mem_of_getElem? (l := wsC_8) (i := 17) rfl)))))))))
theorem wsCw_218 : (.classLink RX3 26 "MillstreamPayments$Entry" : Cond) ∈ wsC := List.mem_append_right _ (List.mem_append_right _ (List.mem_append_right _ (List.mem_append_right _ (List.mem_append_right _ (List.mem_append_right _ (List.mem_append_right _ (List.mem_append_right _ (List.mem_append_left _ (List.mem_of_getElem? (l := wsC_8) (i := 18) rfl)))))))))
theorem wsCw_219 : (.methodLink RX3 22 yJx4a65c_get_915e3 : Cond) ∈ wsC := List.mem_append_right _ (List.mem_append_right _ (List.mem_append_right _ (List.mem_append_right _ (List.mem_append_right _ (List.mem_append_right _ (List.mem_append_right _ (List.mem_append_right _ (List.mem_append_left _ (List.mem_of_getElem? (l := wsC_8) (i := 19) rfl)))))))))
theorem wsCw_220 : (.instanceMethod yJx4a65c_get_915e3 : Cond) ∈ wsC := List.mem_append_right _ (List.mem_append_right _ (List.mem_append_right _ (List.mem_append_right _ (List.mem_append_right _ (List.mem_append_right _ (List.mem_append_right _ (List.mem_append_right _ (List.mem_append_left _ (List.mem_of_getElem? (l := wsC_8) (i := 20) rfl)))))))))
theorem wsCw_221 : (.selects RJx4a65c yJx4a65c_get_915e3 yJx4a65c_get_915e3 : Cond) ∈ wsC := List.mem_append_right _ (List.mem_append_right _ (List.mem_append_right _ (List.mem_append_right _ (List.mem_append_right _ (List.mem_append_right _ (List.mem_append_right _ (List.mem_append_right _ (List.mem_append_left _ (List.mem_of_getElem? (l := wsC_8) (i := 21) rfl)))))))))
theorem wsCw_222 : (.code yJx4a65c_get_915e3 cJx4a65c_get_915e3 2 (some (.object "java/lang/Object")) : Cond) ∈ wsC := List.mem_append_right _ (List.mem_append_right _ (List.mem_append_right _ (List.mem_append_right _ (List.mem_append_right _ (List.mem_append_right _ (List.mem_append_right _ (List.mem_append_right _ (List.mem_append_left _ (List.mem_of_getElem? (l := wsC_8) (i := 22) rfl)))))))))
theorem wsCw_223 : (.fieldLink RX3 32 "MillstreamPayments$Entry" "currency" "I" : Cond) ∈ wsC := List.mem_append_right _ (List.mem_append_right _ (List.mem_append_right _ (List.mem_append_right _ (List.mem_append_right _ (List.mem_append_right _ (List.mem_append_right _ (List.mem_append_right _ (List.mem_append_left _ (List.mem_of_getElem? (l := wsC_8) (i := 23) rfl)))))))))
theorem wsCw_224 : (.fieldLink RX3 36 "MillstreamPayments$Entry" "to" "I" : Cond) ∈ wsC := List.mem_append_right _ (List.mem_append_right _ (List.mem_append_right _ (List.mem_append_right _ (List.mem_append_right _ (List.mem_append_right _ (List.mem_append_right _ (List.mem_append_right _ (List.mem_append_left _ (List.mem_of_getElem? (l := wsC_8) (i := 24) rfl)))))))))
theorem wsCw_225 : (.fieldLink RX3 39 "MillstreamPayments$Entry" "amount" "J" : Cond) ∈ wsC := List.mem_append_right _ (List.mem_append_right _ (List.mem_append_right _ (List.mem_append_right _ (List.mem_append_right _ (List.mem_append_right _ (List.mem_append_right _ (List.mem_append_right _ (List.mem_append_right _ (List.mem_append_left _ (List.mem_of_getElem? (l := wsC_9) (i := 0) rfl))))))))))
theorem wsCw_226 : (.fieldLink RX3 43 "MillstreamPayments$Entry" "from" "I" : Cond) ∈ wsC := List.mem_append_right _ (List.mem_append_right _ (List.mem_append_right _ (List.mem_append_right _ (List.mem_append_right _ (List.mem_append_right _ (List.mem_append_right _ (List.mem_append_right _ (List.mem_append_right _ (List.mem_append_left _ (List.mem_of_getElem? (l := wsC_9) (i := 1) rfl))))))))))
theorem wsCw_227 : (.methodLink RX4 3 objectInit : Cond) ∈ wsC := List.mem_append_right _ (List.mem_append_right _ (List.mem_append_right _ (List.mem_append_right _ (List.mem_append_right _ (List.mem_append_right _ (List.mem_append_right _ (List.mem_append_right _ (List.mem_append_right _ (List.mem_append_left _ (List.mem_of_getElem? (l := wsC_9) (i := 2) rfl))))))))))
theorem wsCw_228 : (.classLink RX4 9 RX9 : Cond) ∈ wsC := List.mem_append_right _ (List.mem_append_right _ (List.mem_append_right _ (List.mem_append_right _ (List.mem_append_right _ (List.mem_append_right _ (List.mem_append_right _ (List.mem_append_right _ (List.mem_append_right _ (List.mem_append_left _ (List.mem_of_getElem? (l := wsC_9) (i := 3) rfl))))))))))
theorem wsCw_229 : (.fieldLink RX4 14 "MillstreamPayments$Calendar" "holidays" "LMillstreamPayments$Row;" : Cond) ∈ wsC := List.mem_append_right _ (List.mem_append_right _ (List.mem_append_right _ (List.mem_append_right _ (List.mem_append_right _ (List.mem_append_right _ (List.mem_append_right _ (List.mem_append_right _ (List.mem_append_right _ (List.mem_append_left _ (List.mem_of_getElem? (l := wsC_9) (i := 4) rfl))))))))))
theorem wsCw_230 : (.methodLink RX4 11 yX9_init : Cond) ∈ wsC := List.mem_append_right _ (List.mem_append_right _ (List.mem_append_right _ (List.mem_append_right _ (List.mem_append_right _ (List.mem_append_right _ (List.mem_append_right _ (List.mem_append_right _ (List.mem_append_right _ (List.mem_append_left _ (List.mem_of_getElem? (l := wsC_9) (i := 5) rfl))))))))))
theorem wsCw_231 : (.methodLink RX4 20 yX9_mark : Cond) ∈ wsC := List.mem_append_right _ (List.mem_append_right _ (List.mem_append_right _ (List.mem_append_right _ (List.mem_append_right _ (List.mem_append_right _ (List.mem_append_right _ (List.mem_append_right _ (List.mem_append_right _ (List.mem_append_left _ (List.mem_of_getElem? (l := wsC_9) (i := 6) rfl))))))))))
theorem wsCw_232 : (.methodLink RX4 24 yX9_isSet : Cond) ∈ wsC := List.mem_append_right _ (List.mem_append_right _ (List.mem_append_right _ (List.mem_append_right _ (List.mem_append_right _ (List.mem_append_right _ (List.mem_append_right _ (List.mem_append_right _ (List.mem_append_right _ (List.mem_append_left _ (List.mem_of_getElem? (l := wsC_9) (i := 7) rfl))))))))))
theorem wsCw_233 : (.fieldLink RX4 28 "MillstreamPayments$Calendar" "day" "I" : Cond) ∈ wsC := List.mem_append_right _ (List.mem_append_right _ (List.mem_append_right _ (List.mem_append_right _ (List.mem_append_right _ (List.mem_append_right _ (List.mem_append_right _ (List.mem_append_right _ (List.mem_append_right _ (List.mem_append_left _ (List.mem_of_getElem? (l := wsC_9) (i := 8) rfl))))))))))
theorem wsCw_234 : (.methodLink RX4 32 yX4_isOpen : Cond) ∈ wsC := List.mem_append_right _ (List.mem_append_right _ (List.mem_append_right _ (List.mem_append_right _ (List.mem_append_right _ (List.mem_append_right _ (List.mem_append_right _ (List.mem_append_right _ (List.mem_append_right _ (List.mem_append_left _ (List.mem_of_getElem? (l := wsC_9) (i := 9) rfl))))))))))
theorem wsCw_235 : (.instanceMethod yX4_isOpen : Cond) ∈ wsC := List.mem_append_right _ (List.mem_append_right _ (List.mem_append_right _ (List.mem_append_right _ (List.mem_append_right _ (List.mem_append_right _ (List.mem_append_right _ (List.mem_append_right _ (List.mem_append_right _ (List.mem_append_left _ (List.mem_of_getElem? (l := wsC_9) (i := 10) rfl))))))))))
theorem wsCw_236 : (.selects RX4 yX4_isOpen yX4_isOpen : Cond) ∈ wsC := List.mem_append_right _ (List.mem_append_right _ (List.mem_append_right _ (List.mem_append_right _ (List.mem_append_right _ (List.mem_append_right _ (List.mem_append_right _ (List.mem_append_right _ (List.mem_append_right _ (List.mem_append_left _ (List.mem_of_getElem? (l := wsC_9) (i := 11) rfl))))))))))
theorem wsCw_237 : (.initialized RX4 : Cond) ∈ wsC := List.mem_append_right _ (List.mem_append_right _ (List.mem_append_right _ (List.mem_append_right _ (List.mem_append_right _ (List.mem_append_right _ (List.mem_append_right _ (List.mem_append_right _ (List.mem_append_right _ (List.mem_append_left _ (List.mem_of_getElem? (l := wsC_9) (i := 12) rfl))))))))))
theorem wsCw_238 : (.code yX4_isOpen cX4_isOpen 4 (some .boolean) : Cond) ∈ wsC := List.mem_append_right _ (List.mem_append_right _ (List.mem_append_right _ (List.mem_append_right _ (List.mem_append_right _ (List.mem_append_right _ (List.mem_append_right _ (List.mem_append_right _ (List.mem_append_right _ (List.mem_append_left _ (List.mem_of_getElem? (l := wsC_9) (i := 13) rfl))))))))))
theorem wsCw_239 : (.methodLink RX8 3 objectInit : Cond) ∈ wsC := List.mem_append_right _ (List.mem_append_right _ (List.mem_append_right _ (List.mem_append_right _ (List.mem_append_right _ (List.mem_append_right _ (List.mem_append_right _ (List.mem_append_right _ (List.mem_append_right _ (List.mem_append_left _ (List.mem_of_getElem? (l := wsC_9) (i := 14) rfl))))))))))
theorem wsCw_240 : (.classLink RX8 9 RJx4a65c : Cond) ∈ wsC := List.mem_append_right _ (List.mem_append_right _ (List.mem_append_right _ (List.mem_append_right _ (List.mem_append_right _ (List.mem_append_right _ (List.mem_append_right _ (List.mem_append_right _ (List.mem_append_right _ (List.mem_append_left _ (List.mem_of_getElem? (l := wsC_9) (i := 15) rfl))))))))))
theorem wsCw_241 : (.fieldLink RX8 12 "MillstreamPayments$Register" "all" "Ljava/util/ArrayList;" : Cond) ∈ wsC := List.mem_append_right _ (List.mem_append_right _ (List.mem_append_right _ (List.mem_append_right _ (List.mem_append_right _ (List.mem_append_right _ (List.mem_append_right _ (List.mem_append_right _ (List.mem_append_right _ (List.mem_append_left _ (List.mem_of_getElem? (l := wsC_9) (i := 16) rfl))))))))))
theorem wsCw_242 : (.classLink RX8 18 RX9 : Cond) ∈ wsC := List.mem_append_right _ (List.mem_append_right _ (List.mem_append_right _ (List.mem_append_right _ (List.mem_append_right _ (List.mem_append_right _ (List.mem_append_right _ (List.mem_append_right _ (List.mem_append_right _ (List.mem_append_left _ (List.mem_of_getElem? (l := wsC_9) (i := 17) rfl))))))))))
theorem wsCw_243 : (.fieldLink RX8 23 "MillstreamPayments$Register" "paymentsOfMessages" "LMillstreamPayments$Row;" : Cond) ∈ wsC := List.mem_append_right _ (List.mem_append_right _ (List.mem_append_right _ (List.mem_append_right _ (List.mem_append_right _ (List.mem_append_right _ (List.mem_append_right _ (List.mem_append_right _ (List.mem_append_right _ (List.mem_append_left _ (List.mem_of_getElem? (l := wsC_9) (i := 18) rfl))))))))))
theorem wsCw_244 : (.constantLong RX8 27 (-1) : Cond) ∈ wsC := List.mem_append_right _ (List.mem_append_right _ (List.mem_append_right _ (List.mem_append_right _ (List.mem_append_right _ (List.mem_append_right _ (List.mem_append_right _ (List.mem_append_right _ (List.mem_append_right _ (List.mem_append_left _ (List.mem_of_getElem? (l := wsC_9) (i := 19) rfl))))))))))
theorem wsCw_245 : (.methodLink RX8 11 yJx4a65c_init_da8c8 : Cond) ∈ wsC := List.mem_append_right _ (List.mem_append_right _ (List.mem_append_right _ (List.mem_append_right _ (List.mem_append_right _ (List.mem_append_right _ (List.mem_append_right _ (List.mem_append_right _ (List.mem_append_right _ (List.mem_append_left _ (List.mem_of_getElem? (l := wsC_9) (i := 20) rfl))))))))))
theorem wsCw_246 : (.methodLink RX8 20 yX9_init : Cond) ∈ wsC := List.mem_append_right _ (List.mem_append_right _ (List.mem_append_right _ (List.mem_append_right _ (List.mem_append_right _ (List.mem_append_right _ (List.mem_append_right _ (List.mem_append_right _ (List.mem_append_right _ (List.mem_append_left _ (List.mem_of_getElem? (l := wsC_9) (i := 21) rfl))))))))))
theorem wsCw_247 : (.methodLink RX8 29 yX9_fill : Cond) ∈ wsC := List.mem_append_right _ (List.mem_append_right _ (List.mem_append_right _ (List.mem_append_right _ (List.mem_append_right _ (List.mem_append_right _ (List.mem_append_right _ (List.mem_append_right _ (List.mem_append_right _ (List.mem_append_left _ (List.mem_of_getElem? (l := wsC_9) (i := 22) rfl))))))))))
theorem wsCw_248 : (.methodLink RX6 3 objectInit : Cond) ∈ wsC := List.mem_append_right _ (List.mem_append_right _ (List.mem_append_right _ (List.mem_append_right _ (List.mem_append_right _ (List.mem_append_right _ (List.mem_append_right _ (List.mem_append_right _ (List.mem_append_right _ (List.mem_append_left _ (List.mem_of_getElem? (l := wsC_9) (i := 23) rfl))))))))))
theorem wsCw_249 : (.classLink RX6 9 RX4 : Cond) ∈ wsC := List.mem_append_right _ (List.mem_append_right _ (List.mem_append_right _ (List.mem_append_right _ (List.mem_append_right _ (List.mem_append_right _ (List.mem_append_right _ (List.mem_append_right _ (List.mem_append_right _ (List.mem_append_left _ (List.mem_of_getElem? (l := wsC_9) (i := 24) rfl))))))))))
theorem wsCw_250 : (.instantiable RX4 2 : Cond) ∈ wsC := List.mem_append_right _ (List.mem_append_right _ (List.mem_append_right _ (List.mem_append_right _ (List.mem_append_right _ (List.mem_append_right _ (List.mem_append_right _ (List.mem_append_right _ (List.mem_append_right _ (List.mem_append_right _ (List.mem_append_left _ (List.mem_of_getElem? (l := wsC_10) (i := 0) rfl)))))))))))
theorem wsCw_251 : (.fieldLink RX6 12 "MillstreamPayments$Exchange" "calendar" "LMillstreamPayments$Calendar;" : Cond) ∈ wsC := List.mem_append_right _ (List.mem_append_right _ (List.mem_append_right _ (List.mem_append_right _ (List.mem_append_right _ (List.mem_append_right _ (List.mem_append_right _ (List.mem_append_right _ (List.mem_append_right _ (List.mem_append_right _ (List.mem_append_left _ (List.mem_of_getElem? (l := wsC_10) (i := 1) rfl)))))))))))
theorem wsCw_252 : (.classLink RX6 18 RX0 : Cond) ∈ wsC := List.mem_append_right _ (List.mem_append_right _ (List.mem_append_right _ (List.mem_append_right _ (List.mem_append_right _ (List.mem_append_right _ (List.mem_append_right _ (List.mem_append_right _ (List.mem_append_right _ (List.mem_append_right _ (List.mem_append_left _ (List.mem_of_getElem? (l := wsC_10) (i := 2) rfl)))))))))))
theorem wsCw_253 : (.instantiable RX0 5 : Cond) ∈ wsC := List.mem_append_right _ (List.mem_append_right _ (List.mem_append_right _ (List.mem_append_right _ (List.mem_append_right _ (List.mem_append_right _ (List.mem_append_right _ (List.mem_append_right _ (List.mem_append_right _ (List.mem_append_right _ (List.mem_append_left _ (List.mem_of_getElem? (l := wsC_10) (i := 3) rfl)))))))))))
theorem wsCw_254 : (.fieldLink RX6 21 "MillstreamPayments$Exchange" "accounts" "LMillstreamPayments$Accounts;" : Cond) ∈ wsC := List.mem_append_right _ (List.mem_append_right _ (List.mem_append_right _ (List.mem_append_right _ (List.mem_append_right _ (List.mem_append_right _ (List.mem_append_right _ (List.mem_append_right _ (List.mem_append_right _ (List.mem_append_right _ (List.mem_append_left _ (List.mem_of_getElem? (l := wsC_10) (i := 4) rfl)))))))))))
theorem wsCw_255 : (.classLink RX6 25 RX8 : Cond) ∈ wsC := List.mem_append_right _ (List.mem_append_right _ (List.mem_append_right _ (List.mem_append_right _ (List.mem_append_right _ (List.mem_append_right _ (List.mem_append_right _ (List.mem_append_right _ (List.mem_append_right _ (List.mem_append_right _ (List.mem_append_left _ (List.mem_of_getElem? (l := wsC_10) (i := 5) rfl)))))))))))
theorem wsCw_256 : (.instantiable RX8 2 : Cond) ∈ wsC := List.mem_append_right _ (List.mem_append_right _ (List.mem_append_right _ (List.mem_append_right _ (List.mem_append_right _ (List.mem_append_right _ (List.mem_append_right _ (List.mem_append_right _ (List.mem_append_right _ (List.mem_append_right _ (List.mem_append_left _ (List.mem_of_getElem? (l := wsC_10) (i := 6) rfl)))))))))))
theorem wsCw_257 : (.initialized RX8 : Cond) ∈ wsC := List.mem_append_right _ (List.mem_append_right _ (List.mem_append_right _ (List.mem_append_right _ (List.mem_append_right _ (List.mem_append_right _ (List.mem_append_right _ (List.mem_append_right _ (List.mem_append_right _ (List.mem_append_right _ (List.mem_append_left _ (List.mem_of_getElem? (l := wsC_10) (i := 7) rfl)))))))))))
theorem wsCw_258 : (.fieldLink RX6 28 "MillstreamPayments$Exchange" "register" "LMillstreamPayments$Register;" : Cond) ∈ wsC := List.mem_append_right _ (List.mem_append_right _ (List.mem_append_right _ (List.mem_append_right _ (List.mem_append_right _ (List.mem_append_right _ (List.mem_append_right _ (List.mem_append_right _ (List.mem_append_right _ (List.mem_append_right _ (List.mem_append_left _ (List.mem_of_getElem? (l := wsC_10) (i := 8) rfl)))))))))))
theorem wsCw_259 : (.classLink RX6 32 RX1 : Cond) ∈ wsC := List.mem_append_right _ (List.mem_append_right _ (List.mem_append_right _ (List.mem_append_right _ (List.mem_append_right _ (List.mem_append_right _ (List.mem_append_right _ (List.mem_append_right _ (List.mem_append_right _ (List.mem_append_right _ (List.mem_append_left _ (List.mem_of_getElem? (l := wsC_10) (i := 9) rfl)))))))))))
theorem wsCw_260 : (.instantiable RX1 4 : Cond) ∈ wsC := List.mem_append_right _ (List.mem_append_right _ (List.mem_append_right _ (List.mem_append_right _ (List.mem_append_right _ (List.mem_append_right _ (List.mem_append_right _ (List.mem_append_right _ (List.mem_append_right _ (List.mem_append_right _ (List.mem_append_left _ (List.mem_of_getElem? (l := wsC_10) (i := 10) rfl)))))))))))
theorem wsCw_261 : (.initialized RX1 : Cond) ∈ wsC := List.mem_append_right _ (List.mem_append_right _ (List.mem_append_right _ (List.mem_append_right _ (List.mem_append_right _ (List.mem_append_right _ (List.mem_append_right _ (List.mem_append_right _ (List.mem_append_right _ (List.mem_append_right _ (List.mem_append_left _ (List.mem_of_getElem? (l := wsC_10) (i := 11) rfl)))))))))))
theorem wsCw_262 : (.fieldLink RX6 35 "MillstreamPayments$Exchange" "advices" "LMillstreamPayments$Advices;" : Cond) ∈ wsC := List.mem_append_right _ (List.mem_append_right _ (List.mem_append_right _ (List.mem_append_right _ (List.mem_append_right _ (List.mem_append_right _ (List.mem_append_right _ (List.mem_append_right _ (List.mem_append_right _ (List.mem_append_right _ (List.mem_append_left _ (List.mem_of_getElem? (l := wsC_10) (i := 12) rfl)))))))))))
theorem wsCw_263 : (.classLink RX6 39 RX9 : Cond) ∈ wsC := List.mem_append_right _ (List.mem_append_right _ (List.mem_append_right _ (List.mem_append_right _ (List.mem_append_right _ (List.mem_append_right _ (List.mem_append_right _ (List.mem_append_right _ (List.mem_append_right _ (List.mem_append_right _ (List.mem_append_left _ (List.mem_of_getElem? (l := wsC_10) (i := 13) rfl)))))))))))
theorem wsCw_264 : (.fieldLink RX6 44 "MillstreamPayments$Exchange" "outages" "LMillstreamPayments$Row;" : Cond) ∈ wsC := List.mem_append_right _ (List.mem_append_right _ (List.mem_append_right _ (List.mem_append_right _ (List.mem_append_right _ (List.mem_append_right _ (List.mem_append_right _ (List.mem_append_right _ (List.mem_append_right _ (List.mem_append_right _ (List.mem_append_left _ (List.mem_of_getElem? (l := wsC_10) (i := 14) rfl)))))))))))
theorem wsCw_265 : (.fieldLink RX6 48 "MillstreamPayments$Exchange" "listed" "LMillstreamPayments$Row;" : Cond) ∈ wsC := List.mem_append_right _ (List.mem_append_right _ (List.mem_append_right _ (List.mem_append_right _ (List.mem_append_right _ (List.mem_append_right _ (List.mem_append_right _ (List.mem_append_right _ (List.mem_append_right _ (List.mem_append_right _ (List.mem_append_left _ (List.mem_of_getElem? (l := wsC_10) (i := 15) rfl)))))))))))
theorem wsCw_266 : (.classLink RX6 51 RX2 : Cond) ∈ wsC := List.mem_append_right _ (List.mem_append_right _ (List.mem_append_right _ (List.mem_append_right _ (List.mem_append_right _ (List.mem_append_right _ (List.mem_append_right _ (List.mem_append_right _ (List.mem_append_right _ (List.mem_append_right _ (List.mem_append_left _ (List.mem_of_getElem? (l := wsC_10) (i := 16) rfl)))))))))))
theorem wsCw_267 : (.instantiable RX2 3 : Cond) ∈ wsC := List.mem_append_right _ (List.mem_append_right _ (List.mem_append_right _ (List.mem_append_right _ (List.mem_append_right _ (List.mem_append_right _ (List.mem_append_right _ (List.mem_append_right _ (List.mem_append_right _ (List.mem_append_right _ (List.mem_append_left _ (List.mem_of_getElem? (l := wsC_10) (i := 17) rfl)))))))))))
theorem wsCw_268 : (.fieldLink RX6 54 "MillstreamPayments$Exchange" "batch" "LMillstreamPayments$Batch;" : Cond) ∈ wsC := List.mem_append_right _ (List.mem_append_right _ (List.mem_append_right _ (List.mem_append_right _ (List.mem_append_right _ (List.mem_append_right _ (List.mem_append_right _ (List.mem_append_right _ (List.mem_append_right _ (List.mem_append_right _ (List.mem_append_left _ (List.mem_of_getElem? (l := wsC_10) (i := 18) rfl)))))))))))
theorem wsCw_269 : (.instanceMethod yX4_init : Cond) ∈ wsC := List.mem_append_right _ (List.mem_append_right _ (List.mem_append_right _ (List.mem_append_right _ (List.mem_append_right _ (List.mem_append_right _ (List.mem_append_right _ (List.mem_append_right _ (List.mem_append_right _ (List.mem_append_right _ (List.mem_append_left _ (List.mem_of_getElem? (l := wsC_10) (i := 19) rfl)))))))))))
theorem wsCw_270 : (.code yX4_init cX4_init 1 none : Cond) ∈ wsC := List.mem_append_right _ (List.mem_append_right _ (List.mem_append_right _ (List.mem_append_right _ (List.mem_append_right _ (List.mem_append_right _ (List.mem_append_right _ (List.mem_append_right _ (List.mem_append_right _ (List.mem_append_right _ (List.mem_append_left _ (List.mem_of_getElem? (l := wsC_10) (i := 20) rfl)))))))))))
theorem wsCw_271 : (.methodLink RX6 20 yX0_init : Cond) ∈ wsC := List.mem_append_right _ (List.mem_append_right _ (List.mem_append_right _ (List.mem_append_right _ (List.mem_append_right _ (List.mem_append_right _ (List.mem_append_right _ (List.mem_append_right _ (List.mem_append_right _ (List.mem_append_right _ (List.mem_append_left _ (List.mem_of_getElem? (l := wsC_10) (i := 21) rfl)))))))))))
theorem wsCw_272 : (.instanceMethod yX0_init : Cond) ∈ wsC := List.mem_append_right _ (List.mem_append_right _ (List.mem_append_right _ (List.mem_append_right _ (List.mem_append_right _ (List.mem_append_right _ (List.mem_append_right _ (List.mem_append_right _ (List.mem_append_right _ (List.mem_append_right _ (List.mem_append_left _ (List.mem_of_getElem? (l := wsC_10) (i := 22) rfl)))))))))))
theorem wsCw_273 : (.code yX0_init cX0_init 1 none : Cond) ∈ wsC := List.mem_append_right _ (List.mem_append_right _ (List.mem_append_right _ (List.mem_append_right _ (List.mem_append_right _ (List.mem_append_right _ (List.mem_append_right _ (List.mem_append_right _ (List.mem_append_right _ (List.mem_append_right _ (List.mem_append_left _ (List.mem_of_getElem? (l := wsC_10) (i := 23) rfl)))))))))))
theorem wsCw_274 : (.methodLink RX6 27 yX8_init : Cond) ∈ wsC := List.mem_append_right _ (List.mem_append_right _ (List.mem_append_right _ (List.mem_append_right _ (List.mem_append_right _ (List.mem_append_right _ (List.mem_append_right _ (List.mem_append_right _ (List.mem_append_right _ (List.mem_append_right _ (List.mem_append_left _ (List.mem_of_getElem? (l := wsC_10) (i := 24) rfl)))))))))))
theorem wsCw_275 : (.instanceMethod yX8_init : Cond) ∈ wsC := List.mem_append_right _ (List.mem_append_right _ (List.mem_append_right _ (List.mem_append_right _ (List.mem_append_right _ (List.mem_append_right _ (List.mem_append_right _ (List.mem_append_right _ (List.mem_append_right _ (List.mem_append_right _ (List.mem_append_right _ (List.mem_append_left _ (List.mem_of_getElem? (l := wsC_11) (i := 0) rfl))))))))))))
theorem wsCw_276 : (.code yX8_init cX8_init 1 none : Cond) ∈ wsC := List.mem_append_right _ (List.mem_append_right _ (List.mem_append_right _ (List.mem_append_right _ (List.mem_append_right _ (List.mem_append_right _ (List.mem_append_right _ (List.mem_append_right _ (List.mem_append_right _ (List.mem_append_right _ (List.mem_append_right _ (List.mem_append_left _ (List.mem_of_getElem? (l := wsC_11) (i := 1) rfl))))))))))))
theorem wsCw_277 : (.instanceMethod yX1_init : Cond) ∈ wsC := List.mem_append_right _ (List.mem_append_right _ (List.mem_append_right _ (List.mem_append_right _ (List.mem_append_right _ (List.mem_append_right _ (List.mem_append_right _ (List.mem_append_right _ (List.mem_append_right _ (List.mem_append_right _ (List.mem_append_right _ (List.mem_append_left _ (List.mem_of_getElem? (l := wsC_11) (i := 2) rfl))))))))))))
theorem wsCw_278 : (.code yX1_init cX1_init 1 none : Cond) ∈ wsC := List.mem_append_right _ (List.mem_append_right _ (List.mem_append_right _ (List.mem_append_right _ (List.mem_append_right _ (List.mem_append_right _ (List.mem_append_right _ (List.mem_append_right _ (List.mem_append_right _ (List.mem_append_right _ (List.mem_append_right _ (List.mem_append_left _ (List.mem_of_getElem? (l := wsC_11) (i := 3) rfl))))))))))))
theorem wsCw_279 : (.methodLink RX6 41 yX9_init : Cond) ∈ wsC := List.mem_append_right _ (List.mem_append_right _ (List.mem_append_right _ (List.mem_append_right _ (List.mem_append_right _ (List.mem_append_right _ (List.mem_append_right _ (List.mem_append_right _ (List.mem_append_right _ (List.mem_append_right _ (List.mem_append_right _ (List.mem_append_left _ (List.mem_of_getElem? (l := wsC_11) (i := 4) rfl))))))))))))
theorem wsCw_280 : (.instanceMethod yX2_init : Cond) ∈ wsC := List.mem_append_right _ (List.mem_append_right _ (List.mem_append_right _ (List.mem_append_right _ (List.mem_append_right _ (List.mem_append_right _ (List.mem_append_right _ (List.mem_append_right _ (List.mem_append_right _ (List.mem_append_right _ (List.mem_append_right _ (List.mem_append_left _ (List.mem_of_getElem? (l := wsC_11) (i := 5) rfl))))))))))))
theorem wsCw_281 : (.code yX2_init cX2_init 1 none : Cond) ∈ wsC := List.mem_append_right _ (List.mem_append_right _ (List.mem_append_right _ (List.mem_append_right _ (List.mem_append_right _ (List.mem_append_right _ (List.mem_append_right _ (List.mem_append_right _ (List.mem_append_right _ (List.mem_append_right _ (List.mem_append_right _ (List.mem_append_left _ (List.mem_of_getElem? (l := wsC_11) (i := 6) rfl))))))))))))
theorem wsCw_282 : (.methodLink RX7 3 objectInit : Cond) ∈ wsC := List.mem_append_right _ (List.mem_append_right _ (List.mem_append_right _ (List.mem_append_right _ (List.mem_append_right _ (List.mem_append_right _ (List.mem_append_right _ (List.mem_append_right _ (List.mem_append_right _ (List.mem_append_right _ (List.mem_append_right _ (List.mem_append_left _ (List.mem_of_getElem? (l := wsC_11) (i := 7) rfl))))))))))))
theorem wsCw_283 : (.fieldLink RX7 9 "MillstreamPayments$Payment" "state" "I" : Cond) ∈ wsC := List.mem_append_right _ (List.mem_append_right _ (List.mem_append_right _ (List.mem_append_right _ (List.mem_append_right _ (List.mem_append_right _ (List.mem_append_right _ (List.mem_append_right _ (List.mem_append_right _ (List.mem_append_right _ (List.mem_append_right _ (List.mem_append_left _ (List.mem_of_getElem? (l := wsC_11) (i := 8) rfl))))))))))))
theorem wsCw_284 : (.fieldLink RX7 15 "MillstreamPayments$Payment" "officer" "I" : Cond) ∈ wsC := List.mem_append_right _ (List.mem_append_right _ (List.mem_append_right _ (List.mem_append_right _ (List.mem_append_right _ (List.mem_append_right _ (List.mem_append_right _ (List.mem_append_right _ (List.mem_append_right _ (List.mem_append_right _ (List.mem_append_right _ (List.mem_append_left _ (List.mem_of_getElem? (l := wsC_11) (i := 9) rfl))))))))))))
theorem wsCw_285 : (.fieldLink RX7 18 "MillstreamPayments$Payment" "finalDay" "I" : Cond) ∈ wsC := List.mem_append_right _ (List.mem_append_right _ (List.mem_append_right _ (List.mem_append_right _ (List.mem_append_right _ (List.mem_append_right _ (List.mem_append_right _ (List.mem_append_right _ (List.mem_append_right _ (List.mem_append_right _ (List.mem_append_right _ (List.mem_append_left _ (List.mem_of_getElem? (l := wsC_11) (i := 10) rfl))))))))))))
theorem wsCw_286 : (.fieldLink RX7 21 "MillstreamPayments$Payment" "lastAnswerDay" "I" : Cond) ∈ wsC := List.mem_append_right _ (List.mem_append_right _ (List.mem_append_right _ (List.mem_append_right _ (List.mem_append_right _ (List.mem_append_right _ (List.mem_append_right _ (List.mem_append_right _ (List.mem_append_right _ (List.mem_append_right _ (List.mem_append_right _ (List.mem_append_left _ (List.mem_of_getElem? (l := wsC_11) (i := 11) rfl))))))))))))
theorem wsCw_287 : (.fieldLink RX7 24 "MillstreamPayments$Payment" "number" "I" : Cond) ∈ wsC := List.mem_append_right _ (List.mem_append_right _ (List.mem_append_right _ (List.mem_append_right _ (List.mem_append_right _ (List.mem_append_right _ (List.mem_append_right _ (List.mem_append_right _ (List.mem_append_right _ (List.mem_append_right _ (List.mem_append_right _ (List.mem_append_left _ (List.mem_of_getElem? (l := wsC_11) (i := 12) rfl))))))))))))
theorem wsCw_288 : (.fieldLink RX7 27 "MillstreamPayments$Payment" "terms" "LMillstreamPayments$Terms;" : Cond) ∈ wsC := List.mem_append_right _ (List.mem_append_right _ (List.mem_append_right _ (List.mem_append_right _ (List.mem_append_right _ (List.mem_append_right _ (List.mem_append_right _ (List.mem_append_right _ (List.mem_append_right _ (List.mem_append_right _ (List.mem_append_right _ (List.mem_append_left _ (List.mem_of_getElem? (l := wsC_11) (i := 13) rfl))))))))))))
theorem wsCw_289 : (.classLink RX8 41 RX7 : Cond) ∈ wsC := List.mem_append_right _ (List.mem_append_right _ (List.mem_append_right _ (List.mem_append_right _ (List.mem_append_right _ (List.mem_append_right _ (List.mem_append_right _ (List.mem_append_right _ (List.mem_append_right _ (List.mem_append_right _ (List.mem_append_right _ (List.mem_append_left _ (List.mem_of_getElem? (l := wsC_11) (i := 14) rfl))))))))))))
theorem wsCw_290 : (.instantiable RX7 9 : Cond) ∈ wsC := List.mem_append_right _ (List.mem_append_right _ (List.mem_append_right _ (List.mem_append_right _ (List.mem_append_right _ (List.mem_append_right _ (List.mem_append_right _ (List.mem_append_right _ (List.mem_append_right _ (List.mem_append_right _ (List.mem_append_right _ (List.mem_append_left _ (List.mem_of_getElem? (l := wsC_11) (i := 15) rfl))))))))))))
theorem wsCw_291 : (.initialized RX7 : Cond) ∈ wsC := List.mem_append_right _ (List.mem_append_right _ (List.mem_append_right _ (List.mem_append_right _ (List.mem_append_right _ (List.mem_append_right _ (List.mem_append_right _ (List.mem_append_right _ (List.mem_append_right _ (List.mem_append_right _ (List.mem_append_right _ (List.mem_append_left _ (List.mem_of_getElem? (l := wsC_11) (i := 16) rfl))))))))))))
theorem wsCw_292 : (.methodLink RX8 33 yJx4a65c_size_8abf5 : Cond) ∈ wsC := List.mem_append_right _ (List.mem_append_right _ (List.mem_append_right _ (List.mem_append_right _ (List.mem_append_right _ (List.mem_append_right _ (List.mem_append_right _ (List.mem_append_right _ (List.mem_append_right _ (List.mem_append_right _ (List.mem_append_right _ (List.mem_append_left _ (List.mem_of_getElem? (l := wsC_11) (i := 17) rfl))))))))))))
theorem wsCw_293 : (.methodLink RX8 43 yX7_init : Cond) ∈ wsC := List.mem_append_right _ (List.mem_append_right _ (List.mem_append_right _ (List.mem_append_right _ (List.mem_append_right _ (List.mem_append_right _ (List.mem_append_right _ (List.mem_append_right _ (List.mem_append_right _ (List.mem_append_right _ (List.mem_append_right _ (List.mem_append_left _ (List.mem_of_getElem? (l := wsC_11) (i := 18) rfl))))))))))))
theorem wsCw_294 : (.instanceMethod yX7_init : Cond) ∈ wsC := List.mem_append_right _ (List.mem_append_right _ (List.mem_append_right _ (List.mem_append_right _ (List.mem_append_right _ (List.mem_append_right _ (List.mem_append_right _ (List.mem_append_right _ (List.mem_append_right _ (List.mem_append_right _ (List.mem_append_right _ (List.mem_append_left _ (List.mem_of_getElem? (l := wsC_11) (i := 19) rfl))))))))))))
theorem wsCw_295 : (.code yX7_init cX7_init 3 none : Cond) ∈ wsC := List.mem_append_right _ (List.mem_append_right _ (List.mem_append_right _ (List.mem_append_right _ (List.mem_append_right _ (List.mem_append_right _ (List.mem_append_right _ (List.mem_append_right _ (List.mem_append_right _ (List.mem_append_right _ (List.mem_append_right _ (List.mem_append_left _ (List.mem_of_getElem? (l := wsC_11) (i := 20) rfl))))))))))))
theorem wsCw_296 : (.methodLink RX8 46 yJx4a65c_add_9ea2d : Cond) ∈ wsC := List.mem_append_right _ (List.mem_append_right _ (List.mem_append_right _ (List.mem_append_right _ (List.mem_append_right _ (List.mem_append_right _ (List.mem_append_right _ (List.mem_append_right _ (List.mem_append_right _ (List.mem_append_right _ (List.mem_append_right _ (List.mem_append_left _ (List.mem_of_getElem? (l := wsC_11) (i := 21) rfl))))))))))))
theorem wsCw_297 : (.fieldLink RX6 101 "MillstreamPayments$Payment" "terms" "LMillstreamPayments$Terms;" : Cond) ∈ wsC := List.mem_append_right _ (List.mem_append_right _ (List.mem_append_right _ (List.mem_append_right _ (List.mem_append_right _ (List.mem_append_right _ (List.mem_append_right _ (List.mem_append_right _ (List.mem_append_right _ (List.mem_append_right _ (List.mem_append_right _ (List.mem_append_left _ (List.mem_of_getElem? (l := wsC_11) (i := 22) rfl))))))))))))
theorem wsCw_298 : (.fieldLink RX6 105 "MillstreamPayments$Terms" "payee" "I" : Cond) ∈ wsC := List.mem_append_right _ (List.mem_append_right _ (List.mem_append_right _ (List.mem_append_right _ (List.mem_append_right _ (List.mem_append_right _ (List.mem_append_right _ (List.mem_append_right _ (List.mem_append_right _ (List.mem_append_right _ (List.mem_append_right _ (List.mem_append_left _ (List.mem_of_getElem? (l := wsC_11) (i := 23) rfl))))))))))))
theorem wsCw_299 : (.fieldLink RX6 111 "MillstreamPayments$Payment" "isReleased" "Z" : Cond) ∈ wsC := List.mem_append_right _ (List.mem_append_right _ (List.mem_append_right _ (List.mem_append_right _ (List.mem_append_right _ (List.mem_append_right _ (List.mem_append_right _ (List.mem_append_right _ (List.mem_append_right _ (List.mem_append_right _ (List.mem_append_right _ (List.mem_append_left _ (List.mem_of_getElem? (l := wsC_11) (i := 24) rfl))))))))))))
theorem wsCw_300 : (.fieldLink RX6 115 "MillstreamPayments$Payment" "state" "I" : Cond) ∈ wsC := List.mem_append_right _ (List.mem_append_right _ (List.mem_append_right _ (List.mem_append_right _ (List.mem_append_right _ (List.mem_append_right _ (List.mem_append_right _ (List.mem_append_right _ (List.mem_append_right _ (List.mem_append_right _ (List.mem_append_right _ (List.mem_append_right _ (List.mem_append_left _ (List.mem_of_getElem? (l := wsC_12) (i := 0) rfl)))))))))))))
theorem wsCw_301 : (.fieldLink RX6 118 "MillstreamPayments$Terms" "isReal" "Z" : Cond) ∈ wsC := List.mem_append_right _ (List.mem_append_right _ (List.mem_append_right _ (List.mem_append_right _ (List.mem_append_right _ (List.mem_append_right _ (List.mem_append_right _ (List.mem_append_right _ (List.mem_append_right _ (List.mem_append_right _ (List.mem_append_right _ (List.mem_append_right _ (List.mem_append_left _ (List.mem_of_getElem? (l := wsC_12) (i := 1) rfl)))))))))))))
theorem wsCw_302 : (.methodLink RX6 108 yX9_isSet : Cond) ∈ wsC := List.mem_append_right _ (List.mem_append_right _ (List.mem_append_right _ (List.mem_append_right _ (List.mem_append_right _ (List.mem_append_right _ (List.mem_append_right _ (List.mem_append_right _ (List.mem_append_right _ (List.mem_append_right _ (List.mem_append_right _ (List.mem_append_right _ (List.mem_append_left _ (List.mem_of_getElem? (l := wsC_12) (i := 2) rfl)))))))))))))
theorem wsCw_303 : (.fieldLink RX6 62 "MillstreamPayments$Terms" "day" "I" : Cond) ∈ wsC := List.mem_append_right _ (List.mem_append_right _ (List.mem_append_right _ (List.mem_append_right _ (List.mem_append_right _ (List.mem_append_right _ (List.mem_append_right _ (List.mem_append_right _ (List.mem_append_right _ (List.mem_append_right _ (List.mem_append_right _ (List.mem_append_right _ (List.mem_append_left _ (List.mem_of_getElem? (l := wsC_12) (i := 3) rfl)))))))))))))
theorem wsCw_304 : (.fieldLink RX6 68 "MillstreamPayments$Calendar" "day" "I" : Cond) ∈ wsC := List.mem_append_right _ (List.mem_append_right _ (List.mem_append_right _ (List.mem_append_right _ (List.mem_append_right _ (List.mem_append_right _ (List.mem_append_right _ (List.mem_append_right _ (List.mem_append_right _ (List.mem_append_right _ (List.mem_append_right _ (List.mem_append_right _ (List.mem_append_left _ (List.mem_of_getElem? (l := wsC_12) (i := 4) rfl)))))))))))))
theorem wsCw_305 : (.fieldLink RX6 69 "MillstreamPayments$Terms" "currency" "I" : Cond) ∈ wsC := List.mem_append_right _ (List.mem_append_right _ (List.mem_append_right _ (List.mem_append_right _ (List.mem_append_right _ (List.mem_append_right _ (List.mem_append_right _ (List.mem_append_right _ (List.mem_append_right _ (List.mem_append_right _ (List.mem_append_right _ (List.mem_append_right _ (List.mem_append_left _ (List.mem_of_getElem? (l := wsC_12) (i := 5) rfl)))))))))))))
theorem wsCw_306 : (.fieldLink RX6 80 "MillstreamPayments$Payment" "number" "I" : Cond) ∈ wsC := List.mem_append_right _ (List.mem_append_right _ (List.mem_append_right _ (List.mem_append_right _ (List.mem_append_right _ (List.mem_append_right _ (List.mem_append_right _ (List.mem_append_right _ (List.mem_append_right _ (List.mem_append_right _ (List.mem_append_right _ (List.mem_append_right _ (List.mem_append_left _ (List.mem_of_getElem? (l := wsC_12) (i := 6) rfl)))))))))))))
theorem wsCw_307 : (.methodLink RX6 58 yX8_open : Cond) ∈ wsC := List.mem_append_right _ (List.mem_append_right _ (List.mem_append_right _ (List.mem_append_right _ (List.mem_append_right _ (List.mem_append_right _ (List.mem_append_right _ (List.mem_append_right _ (List.mem_append_right _ (List.mem_append_right _ (List.mem_append_right _ (List.mem_append_right _ (List.mem_append_left _ (List.mem_of_getElem? (l := wsC_12) (i := 7) rfl)))))))))))))
theorem wsCw_308 : (.instanceMethod yX8_open : Cond) ∈ wsC := List.mem_append_right _ (List.mem_append_right _ (List.mem_append_right _ (List.mem_append_right _ (List.mem_append_right _ (List.mem_append_right _ (List.mem_append_right _ (List.mem_append_right _ (List.mem_append_right _ (List.mem_append_right _ (List.mem_append_right _ (List.mem_append_right _ (List.mem_append_left _ (List.mem_of_getElem? (l := wsC_12) (i := 8) rfl)))))))))))))
theorem wsCw_309 : (.selects RX8 yX8_open yX8_open : Cond) ∈ wsC := List.mem_append_right _ (List.mem_append_right _ (List.mem_append_right _ (List.mem_append_right _ (List.mem_append_right _ (List.mem_append_right _ (List.mem_append_right _ (List.mem_append_right _ (List.mem_append_right _ (List.mem_append_right _ (List.mem_append_right _ (List.mem_append_right _ (List.mem_append_left _ (List.mem_of_getElem? (l := wsC_12) (i := 9) rfl)))))))))))))
theorem wsCw_310 : (.code yX8_open cX8_open 3 (some (.object "MillstreamPayments$Payment")) : Cond) ∈ wsC := List.mem_append_right _ (List.mem_append_right _ (List.mem_append_right _ (List.mem_append_right _ (List.mem_append_right _ (List.mem_append_right _ (List.mem_append_right _ (List.mem_append_right _ (List.mem_append_right _ (List.mem_append_right _ (List.mem_append_right _ (List.mem_append_right _ (List.mem_append_left _ (List.mem_of_getElem? (l := wsC_12) (i := 10) rfl)))))))))))))
theorem wsCw_311 : (.methodLink RX6 72 yX4_isOpenToday : Cond) ∈ wsC := List.mem_append_right _ (List.mem_append_right _ (List.mem_append_right _ (List.mem_append_right _ (List.mem_append_right _ (List.mem_append_right _ (List.mem_append_right _ (List.mem_append_right _ (List.mem_append_right _ (List.mem_append_right _ (List.mem_append_right _ (List.mem_append_right _ (List.mem_append_left _ (List.mem_of_getElem? (l := wsC_12) (i := 11) rfl)))))))))))))
theorem wsCw_312 : (.instanceMethod yX4_isOpenToday : Cond) ∈ wsC := List.mem_append_right _ (List.mem_append_right _ (List.mem_append_right _ (List.mem_append_right _ (List.mem_append_right _ (List.mem_append_right _ (List.mem_append_right _ (List.mem_append_right _ (List.mem_append_right _ (List.mem_append_right _ (List.mem_append_right _ (List.mem_append_right _ (List.mem_append_left _ (List.mem_of_getElem? (l := wsC_12) (i := 12) rfl)))))))))))))
theorem wsCw_313 : (.selects RX4 yX4_isOpenToday yX4_isOpenToday : Cond) ∈ wsC := List.mem_append_right _ (List.mem_append_right _ (List.mem_append_right _ (List.mem_append_right _ (List.mem_append_right _ (List.mem_append_right _ (List.mem_append_right _ (List.mem_append_right _ (List.mem_append_right _ (List.mem_append_right _ (List.mem_append_right _ (List.mem_append_right _ (List.mem_append_left _ (List.mem_of_getElem? (l := wsC_12) (i := 13) rfl)))))))))))))
theorem wsCw_314 : (.code yX4_isOpenToday cX4_isOpenToday 2 (some .boolean) : Cond) ∈ wsC := List.mem_append_right _ (List.mem_append_right _ (List.mem_append_right _ (List.mem_append_right _ (List.mem_append_right _ (List.mem_append_right _ (List.mem_append_right _ (List.mem_append_right _ (List.mem_append_right _ (List.mem_append_right _ (List.mem_append_right _ (List.mem_append_right _ (List.mem_append_left _ (List.mem_of_getElem? (l := wsC_12) (i := 14) rfl)))))))))))))
theorem wsCw_315 : (.methodLink RX6 76 yX6_letEnter : Cond) ∈ wsC := List.mem_append_right _ (List.mem_append_right _ (List.mem_append_right _ (List.mem_append_right _ (List.mem_append_right _ (List.mem_append_right _ (List.mem_append_right _ (List.mem_append_right _ (List.mem_append_right _ (List.mem_append_right _ (List.mem_append_right _ (List.mem_append_right _ (List.mem_append_left _ (List.mem_of_getElem? (l := wsC_12) (i := 15) rfl)))))))))))))
theorem wsCw_316 : (.instanceMethod yX6_letEnter : Cond) ∈ wsC := List.mem_append_right _ (List.mem_append_right _ (List.mem_append_right _ (List.mem_append_right _ (List.mem_append_right _ (List.mem_append_right _ (List.mem_append_right _ (List.mem_append_right _ (List.mem_append_right _ (List.mem_append_right _ (List.mem_append_right _ (List.mem_append_right _ (List.mem_append_left _ (List.mem_of_getElem? (l := wsC_12) (i := 16) rfl)))))))))))))
theorem wsCw_317 : (.selects RX6 yX6_letEnter yX6_letEnter : Cond) ∈ wsC := List.mem_append_right _ (List.mem_append_right _ (List.mem_append_right _ (List.mem_append_right _ (List.mem_append_right _ (List.mem_append_right _ (List.mem_append_right _ (List.mem_append_right _ (List.mem_append_right _ (List.mem_append_right _ (List.mem_append_right _ (List.mem_append_right _ (List.mem_append_left _ (List.mem_of_getElem? (l := wsC_12) (i := 17) rfl)))))))))))))
theorem wsCw_318 : (.initialized RX6 : Cond) ∈ wsC := List.mem_append_right _ (List.mem_append_right _ (List.mem_append_right _ (List.mem_append_right _ (List.mem_append_right _ (List.mem_append_right _ (List.mem_append_right _ (List.mem_append_right _ (List.mem_append_right _ (List.mem_append_right _ (List.mem_append_right _ (List.mem_append_right _ (List.mem_append_left _ (List.mem_of_getElem? (l := wsC_12) (i := 18) rfl)))))))))))))
theorem wsCw_319 : (.code yX6_letEnter cX6_letEnter 2 none : Cond) ∈ wsC := List.mem_append_right _ (List.mem_append_right _ (List.mem_append_right _ (List.mem_append_right _ (List.mem_append_right _ (List.mem_append_right _ (List.mem_append_right _ (List.mem_append_right _ (List.mem_append_right _ (List.mem_append_right _ (List.mem_append_right _ (List.mem_append_right _ (List.mem_append_left _ (List.mem_of_getElem? (l := wsC_12) (i := 19) rfl)))))))))))))
theorem wsCw_320 : (.methodLink RX10 1 objectInit : Cond) ∈ wsC := List.mem_append_right _ (List.mem_append_right _ (List.mem_append_right _ (List.mem_append_right _ (List.mem_append_right _ (List.mem_append_right _ (List.mem_append_right _ (List.mem_append_right _ (List.mem_append_right _ (List.mem_append_right _ (List.mem_append_right _ (List.mem_append_right _ (List.mem_append_left _ (List.mem_of_getElem? (l := wsC_12) (i := 20) rfl)))))))))))))
theorem wsCw_321 : (.fieldLink RX10 7 "MillstreamPayments$Terms" "from" "I" : Cond) ∈ wsC := List.mem_append_right _ (List.mem_append_right _ (List.mem_append_right _ (List.mem_append_right _ (List.mem_append_right _ (List.mem_append_right _ (List.mem_append_right _ (List.mem_append_right _ (List.mem_append_right _ (List.mem_append_right _ (List.mem_append_right _ (List.mem_append_right _ (List.mem_append_left _ (List.mem_of_getElem? (l := wsC_12) (i := 21) rfl)))))))))))))
theorem wsCw_322 : (.fieldLink RX10 13 "MillstreamPayments$Terms" "to" "I" : Cond) ∈ wsC := List.mem_append_right _ (List.mem_append_right _ (List.mem_append_right _ (List.mem_append_right _ (List.mem_append_right _ (List.mem_append_right _ (List.mem_append_right _ (List.mem_append_right _ (List.mem_append_right _ (List.mem_append_right _ (List.mem_append_right _ (List.mem_append_right _ (List.mem_append_left _ (List.mem_of_getElem? (l := wsC_12) (i := 22) rfl)))))))))))))
theorem wsCw_323 : (.fieldLink RX10 16 "MillstreamPayments$Terms" "currency" "I" : Cond) ∈ wsC := List.mem_append_right _ (List.mem_append_right _ (List.mem_append_right _ (List.mem_append_right _ (List.mem_append_right _ (List.mem_append_right _ (List.mem_append_right _ (List.mem_append_right _ (List.mem_append_right _ (List.mem_append_right _ (List.mem_append_right _ (List.mem_append_right _ (List.mem_append_left _ (List.mem_of_getElem? (l := wsC_12) (i := 23) rfl)))))))))))))
theorem wsCw_324 : (.fieldLink RX10 19 "MillstreamPayments$Terms" "amount" "I" : Cond) ∈ wsC := List.mem_append_right _ (List.mem_append_right _ (List.mem_append_right _ (List.mem_append_right _ (List.mem_append_right _ (List.mem_append_right _ (List.mem_append_right _ (List.mem_append_right _ (List.mem_append_right _ (List.mem_append_right _ (List.mem_append_right _ (List.mem_append_right _ (List.mem_append_left _ (List.mem_of_getElem? (l := wsC_12) (i := 24) rfl)))))))))))))
theorem wsCw_325 : (.fieldLink RX10 22 "MillstreamPayments$Terms" "payee" "I" : Cond) ∈ wsC := List.mem_append_right _ (List.mem_append_right _ (List.mem_append_right _ (List.mem_append_right _ (List.mem_append_right _ (List.mem_append_right _ (List.mem_append_right _ (List.mem_append_right _ (List.mem_append_right _ (List.mem_append_right _ (List.mem_append_right _ (List.mem_append_right _ (List.mem_append_right _ (List.mem_append_left _ (List.mem_of_getElem? (l := wsC_13) (i := 0) rfl))))))))))))))
theorem wsCw_326 : (.fieldLink RX10 25 "MillstreamPayments$Terms" "rank" "I" : Cond) ∈ wsC := List.mem_append_right _ (List.mem_append_right _ (List.mem_append_right _ (List.mem_append_right _ (List.mem_append_right _ (List.mem_append_right _ (List.mem_append_right _ (List.mem_append_right _ (List.mem_append_right _ (List.mem_append_right _ (List.mem_append_right _ (List.mem_append_right _ (List.mem_append_right _ (List.mem_append_left _ (List.mem_of_getElem? (l := wsC_13) (i := 1) rfl))))))))))))))
theorem wsCw_327 : (.fieldLink RX10 28 "MillstreamPayments$Terms" "isReal" "Z" : Cond) ∈ wsC := List.mem_append_right _ (List.mem_append_right _ (List.mem_append_right _ (List.mem_append_right _ (List.mem_append_right _ (List.mem_append_right _ (List.mem_append_right _ (List.mem_append_right _ (List.mem_append_right _ (List.mem_append_right _ (List.mem_append_right _ (List.mem_append_right _ (List.mem_append_right _ (List.mem_append_left _ (List.mem_of_getElem? (l := wsC_13) (i := 2) rfl))))))))))))))
theorem wsCw_328 : (.fieldLink RX10 32 "MillstreamPayments$Terms" "day" "I" : Cond) ∈ wsC := List.mem_append_right _ (List.mem_append_right _ (List.mem_append_right _ (List.mem_append_right _ (List.mem_append_right _ (List.mem_append_right _ (List.mem_append_right _ (List.mem_append_right _ (List.mem_append_right _ (List.mem_append_right _ (List.mem_append_right _ (List.mem_append_right _ (List.mem_append_right _ (List.mem_append_left _ (List.mem_of_getElem? (l := wsC_13) (i := 3) rfl))))))))))))))
theorem wsCw_329 : (.fieldLink RX10 35 "MillstreamPayments$Terms" "stays" "Z" : Cond) ∈ wsC := List.mem_append_right _ (List.mem_append_right _ (List.mem_append_right _ (List.mem_append_right _ (List.mem_append_right _ (List.mem_append_right _ (List.mem_append_right _ (List.mem_append_right _ (List.mem_append_right _ (List.mem_append_right _ (List.mem_append_right _ (List.mem_append_right _ (List.mem_append_right _ (List.mem_append_left _ (List.mem_of_getElem? (l := wsC_13) (i := 4) rfl))))))))))))))
theorem wsCw_330 : (.classLink RX6 63 RX10 : Cond) ∈ wsC := List.mem_append_right _ (List.mem_append_right _ (List.mem_append_right _ (List.mem_append_right _ (List.mem_append_right _ (List.mem_append_right _ (List.mem_append_right _ (List.mem_append_right _ (List.mem_append_right _ (List.mem_append_right _ (List.mem_append_right _ (List.mem_append_right _ (List.mem_append_right _ (List.mem_append_left _ (List.mem_of_getElem? (l := wsC_13) (i := 5) rfl))))))))))))))
theorem wsCw_331 : (.instantiable RX10 9 : Cond) ∈ wsC := List.mem_append_right _ (List.mem_append_right _ (List.mem_append_right _ (List.mem_append_right _ (List.mem_append_right _ (List.mem_append_right _ (List.mem_append_right _ (List.mem_append_right _ (List.mem_append_right _ (List.mem_append_right _ (List.mem_append_right _ (List.mem_append_right _ (List.mem_append_right _ (List.mem_append_left _ (List.mem_of_getElem? (l := wsC_13) (i := 6) rfl))))))))))))))
theorem wsCw_332 : (.initialized RX10 : Cond) ∈ wsC := List.mem_append_right _ (List.mem_append_right _ (List.mem_append_right _ (List.mem_append_right _ (List.mem_append_right _ (List.mem_append_right _ (List.mem_append_right _ (List.mem_append_right _ (List.mem_append_right _ (List.mem_append_right _ (List.mem_append_right _ (List.mem_append_right _ (List.mem_append_right _ (List.mem_append_left _ (List.mem_of_getElem? (l := wsC_13) (i := 7) rfl))))))))))))))
theorem wsCw_333 : (.fieldLink RX6 85 "MillstreamPayments$Terms" "to" "I" : Cond) ∈ wsC := List.mem_append_right _ (List.mem_append_right _ (List.mem_append_right _ (List.mem_append_right _ (List.mem_append_right _ (List.mem_append_right _ (List.mem_append_right _ (List.mem_append_right _ (List.mem_append_right _ (List.mem_append_right _ (List.mem_append_right _ (List.mem_append_right _ (List.mem_append_right _ (List.mem_append_left _ (List.mem_of_getElem? (l := wsC_13) (i := 8) rfl))))))))))))))
theorem wsCw_334 : (.fieldLink RX6 88 "MillstreamPayments$Terms" "from" "I" : Cond) ∈ wsC := List.mem_append_right _ (List.mem_append_right _ (List.mem_append_right _ (List.mem_append_right _ (List.mem_append_right _ (List.mem_append_right _ (List.mem_append_right _ (List.mem_append_right _ (List.mem_append_right _ (List.mem_append_right _ (List.mem_append_right _ (List.mem_append_right _ (List.mem_append_right _ (List.mem_append_left _ (List.mem_of_getElem? (l := wsC_13) (i := 9) rfl))))))))))))))
theorem wsCw_335 : (.fieldLink RX6 91 "MillstreamPayments$Terms" "amount" "I" : Cond) ∈ wsC := List.mem_append_right _ (List.mem_append_right _ (List.mem_append_right _ (List.mem_append_right _ (List.mem_append_right _ (List.mem_append_right _ (List.mem_append_right _ (List.mem_append_right _ (List.mem_append_right _ (List.mem_append_right _ (List.mem_append_right _ (List.mem_append_right _ (List.mem_append_right _ (List.mem_append_left _ (List.mem_of_getElem? (l := wsC_13) (i := 10) rfl))))))))))))))
theorem wsCw_336 : (.methodLink RX6 94 yX10_init : Cond) ∈ wsC := List.mem_append_right _ (List.mem_append_right _ (List.mem_append_right _ (List.mem_append_right _ (List.mem_append_right _ (List.mem_append_right _ (List.mem_append_right _ (List.mem_append_right _ (List.mem_append_right _ (List.mem_append_right _ (List.mem_append_right _ (List.mem_append_right _ (List.mem_append_right _ (List.mem_append_left _ (List.mem_of_getElem? (l := wsC_13) (i := 11) rfl))))))))))))))
theorem wsCw_337 : (.instanceMethod yX10_init : Cond) ∈ wsC := List.mem_append_right _ (List.mem_append_right _ (List.mem_append_right _ (List.mem_append_right _ (List.mem_append_right _ (List.mem_append_right _ (List.mem_append_right _ (List.mem_append_right _ (List.mem_append_right _ (List.mem_append_right _ (List.mem_append_right _ (List.mem_append_right _ (List.mem_append_right _ (List.mem_append_left _ (List.mem_of_getElem? (l := wsC_13) (i := 12) rfl))))))))))))))
theorem wsCw_338 : (.code yX10_init cX10_init 5 none : Cond) ∈ wsC := List.mem_append_right _ (List.mem_append_right _ (List.mem_append_right _ (List.mem_append_right _ (List.mem_append_right _ (List.mem_append_right _ (List.mem_append_right _ (List.mem_append_right _ (List.mem_append_right _ (List.mem_append_right _ (List.mem_append_right _ (List.mem_append_right _ (List.mem_append_right _ (List.mem_append_left _ (List.mem_of_getElem? (l := wsC_13) (i := 13) rfl))))))))))))))
theorem wsCw_339 : (.methodLink RX6 97 yX10_arrange : Cond) ∈ wsC := List.mem_append_right _ (List.mem_append_right _ (List.mem_append_right _ (List.mem_append_right _ (List.mem_append_right _ (List.mem_append_right _ (List.mem_append_right _ (List.mem_append_right _ (List.mem_append_right _ (List.mem_append_right _ (List.mem_append_right _ (List.mem_append_right _ (List.mem_append_right _ (List.mem_append_left _ (List.mem_of_getElem? (l := wsC_13) (i := 14) rfl))))))))))))))
theorem wsCw_340 : (.instanceMethod yX10_arrange : Cond) ∈ wsC := List.mem_append_right _ (List.mem_append_right _ (List.mem_append_right _ (List.mem_append_right _ (List.mem_append_right _ (List.mem_append_right _ (List.mem_append_right _ (List.mem_append_right _ (List.mem_append_right _ (List.mem_append_right _ (List.mem_append_right _ (List.mem_append_right _ (List.mem_append_right _ (List.mem_append_left _ (List.mem_of_getElem? (l := wsC_13) (i := 15) rfl))))))))))))))
theorem wsCw_341 : (.selects RX10 yX10_arrange yX10_arrange : Cond) ∈ wsC := List.mem_append_right _ (List.mem_append_right _ (List.mem_append_right _ (List.mem_append_right _ (List.mem_append_right _ (List.mem_append_right _ (List.mem_append_right _ (List.mem_append_right _ (List.mem_append_right _ (List.mem_append_right _ (List.mem_append_right _ (List.mem_append_right _ (List.mem_append_right _ (List.mem_append_left _ (List.mem_of_getElem? (l := wsC_13) (i := 16) rfl))))))))))))))
theorem wsCw_342 : (.code yX10_arrange cX10_arrange 6 none : Cond) ∈ wsC := List.mem_append_right _ (List.mem_append_right _ (List.mem_append_right _ (List.mem_append_right _ (List.mem_append_right _ (List.mem_append_right _ (List.mem_append_right _ (List.mem_append_right _ (List.mem_append_right _ (List.mem_append_right _ (List.mem_append_right _ (List.mem_append_right _ (List.mem_append_right _ (List.mem_append_left _ (List.mem_of_getElem? (l := wsC_13) (i := 17) rfl))))))))))))))
theorem wsCw_343 : (.classLink RX8 41 "MillstreamPayments$Payment" : Cond) ∈ wsC := List.mem_append_right _ (List.mem_append_right _ (List.mem_append_right _ (List.mem_append_right _ (List.mem_append_right _ (List.mem_append_right _ (List.mem_append_right _ (List.mem_append_right _ (List.mem_append_right _ (List.mem_append_right _ (List.mem_append_right _ (List.mem_append_right _ (List.mem_append_right _ (List.mem_append_left _ (List.mem_of_getElem? (l := wsC_13) (i := 18) rfl))))))))))))))
theorem wsCw_344 : (.methodLink RX8 37 yJx4a65c_get_915e3 : Cond) ∈ wsC := List.mem_append_right _ (List.mem_append_right _ (List.mem_append_right _ (List.mem_append_right _ (List.mem_append_right _ (List.mem_append_right _ (List.mem_append_right _ (List.mem_append_right _ (List.mem_append_right _ (List.mem_append_right _ (List.mem_append_right _ (List.mem_append_right _ (List.mem_append_right _ (List.mem_append_left _ (List.mem_of_getElem? (l := wsC_13) (i := 19) rfl))))))))))))))
theorem wsCw_345 : (.methodLink RX6 121 yX8_count : Cond) ∈ wsC := List.mem_append_right _ (List.mem_append_right _ (List.mem_append_right _ (List.mem_append_right _ (List.mem_append_right _ (List.mem_append_right _ (List.mem_append_right _ (List.mem_append_right _ (List.mem_append_right _ (List.mem_append_right _ (List.mem_append_right _ (List.mem_append_right _ (List.mem_append_right _ (List.mem_append_left _ (List.mem_of_getElem? (l := wsC_13) (i := 20) rfl))))))))))))))
theorem wsCw_346 : (.instanceMethod yX8_count : Cond) ∈ wsC := List.mem_append_right _ (List.mem_append_right _ (List.mem_append_right _ (List.mem_append_right _ (List.mem_append_right _ (List.mem_append_right _ (List.mem_append_right _ (List.mem_append_right _ (List.mem_append_right _ (List.mem_append_right _ (List.mem_append_right _ (List.mem_append_right _ (List.mem_append_right _ (List.mem_append_left _ (List.mem_of_getElem? (l := wsC_13) (i := 21) rfl))))))))))))))
theorem wsCw_347 : (.selects RX8 yX8_count yX8_count : Cond) ∈ wsC := List.mem_append_right _ (List.mem_append_right _ (List.mem_append_right _ (List.mem_append_right _ (List.mem_append_right _ (List.mem_append_right _ (List.mem_append_right _ (List.mem_append_right _ (List.mem_append_right _ (List.mem_append_right _ (List.mem_append_right _ (List.mem_append_right _ (List.mem_append_right _ (List.mem_append_left _ (List.mem_of_getElem? (l := wsC_13) (i := 22) rfl))))))))))))))
theorem wsCw_348 : (.code yX8_count cX8_count 1 (some .int) : Cond) ∈ wsC := List.mem_append_right _ (List.mem_append_right _ (List.mem_append_right _ (List.mem_append_right _ (List.mem_append_right _ (List.mem_append_right _ (List.mem_append_right _ (List.mem_append_right _ (List.mem_append_right _ (List.mem_append_right _ (List.mem_append_right _ (List.mem_append_right _ (List.mem_append_right _ (List.mem_append_left _ (List.mem_of_getElem? (l := wsC_13) (i := 23) rfl))))))))))))))
theorem wsCw_349 : (.methodLink RX6 125 yX8_find : Cond) ∈ wsC := List.mem_append_right _ (List.mem_append_right _ (List.mem_append_right _ (List.mem_append_right _ (List.mem_append_right _ (List.mem_append_right _ (List.mem_append_right _ (List.mem_append_right _ (List.mem_append_right _ (List.mem_append_right _ (List.mem_append_right _ (List.mem_append_right _ (List.mem_append_right _ (List.mem_append_left _ (List.mem_of_getElem? (l := wsC_13) (i := 24) rfl))))))))))))))
theorem wsCw_350 : (.instanceMethod yX8_find : Cond) ∈ wsC := List.mem_append_right _ (List.mem_append_right _ (List.mem_append_right _ (List.mem_append_right _ (List.mem_append_right _ (List.mem_append_right _ (List.mem_append_right _ (List.mem_append_right _ (List.mem_append_right _ (List.mem_append_right _ (List.mem_append_right _ (List.mem_append_right _ (List.mem_append_right _ (List.mem_append_right _ (List.mem_append_left _ (List.mem_of_getElem? (l := wsC_14) (i := 0) rfl)))))))))))))))
theorem wsCw_351 : (.selects RX8 yX8_find yX8_find : Cond) ∈ wsC := List.mem_append_right _ (List.mem_append_right _ (List.mem_append_right _ (List.mem_append_right _ (List.mem_append_right _ (List.mem_append_right _ (List.mem_append_right _ (List.mem_append_right _ (List.mem_append_right _ (List.mem_append_right _ (List.mem_append_right _ (List.mem_append_right _ (List.mem_append_right _ (List.mem_append_right _ (List.mem_append_left _ (List.mem_of_getElem? (l := wsC_14) (i := 1) rfl)))))))))))))))
theorem wsCw_352 : (.code yX8_find cX8_find 2 (some (.object "MillstreamPayments$Payment")) : Cond) ∈ wsC := List.mem_append_right _ (List.mem_append_right _ (List.mem_append_right _ (List.mem_append_right _ (List.mem_append_right _ (List.mem_append_right _ (List.mem_append_right _ (List.mem_append_right _ (List.mem_append_right _ (List.mem_append_right _ (List.mem_append_right _ (List.mem_append_right _ (List.mem_append_right _ (List.mem_append_right _ (List.mem_append_left _ (List.mem_of_getElem? (l := wsC_14) (i := 2) rfl)))))))))))))))
theorem wsCw_353 : (.fieldLink RX7 31 "MillstreamPayments$Terms" "currency" "I" : Cond) ∈ wsC := List.mem_append_right _ (List.mem_append_right _ (List.mem_append_right _ (List.mem_append_right _ (List.mem_append_right _ (List.mem_append_right _ (List.mem_append_right _ (List.mem_append_right _ (List.mem_append_right _ (List.mem_append_right _ (List.mem_append_right _ (List.mem_append_right _ (List.mem_append_right _ (List.mem_append_right _ (List.mem_append_left _ (List.mem_of_getElem? (l := wsC_14) (i := 3) rfl)))))))))))))))
theorem wsCw_354 : (.fieldLink RX7 36 "MillstreamPayments$Terms" "rank" "I" : Cond) ∈ wsC := List.mem_append_right _ (List.mem_append_right _ (List.mem_append_right _ (List.mem_append_right _ (List.mem_append_right _ (List.mem_append_right _ (List.mem_append_right _ (List.mem_append_right _ (List.mem_append_right _ (List.mem_append_right _ (List.mem_append_right _ (List.mem_append_right _ (List.mem_append_right _ (List.mem_append_right _ (List.mem_append_left _ (List.mem_of_getElem? (l := wsC_14) (i := 4) rfl)))))))))))))))
theorem wsCw_355 : (.fieldLink RX8 66 "MillstreamPayments$Payment" "terms" "LMillstreamPayments$Terms;" : Cond) ∈ wsC := List.mem_append_right _ (List.mem_append_right _ (List.mem_append_right _ (List.mem_append_right _ (List.mem_append_right _ (List.mem_append_right _ (List.mem_append_right _ (List.mem_append_right _ (List.mem_append_right _ (List.mem_append_right _ (List.mem_append_right _ (List.mem_append_right _ (List.mem_append_right _ (List.mem_append_right _ (List.mem_append_left _ (List.mem_of_getElem? (l := wsC_14) (i := 5) rfl)))))))))))))))
theorem wsCw_356 : (.fieldLink RX8 70 "MillstreamPayments$Terms" "from" "I" : Cond) ∈ wsC := List.mem_append_right _ (List.mem_append_right _ (List.mem_append_right _ (List.mem_append_right _ (List.mem_append_right _ (List.mem_append_right _ (List.mem_append_right _ (List.mem_append_right _ (List.mem_append_right _ (List.mem_append_right _ (List.mem_append_right _ (List.mem_append_right _ (List.mem_append_right _ (List.mem_append_right _ (List.mem_append_left _ (List.mem_of_getElem? (l := wsC_14) (i := 6) rfl)))))))))))))))
theorem wsCw_357 : (.methodLink RX8 62 yX7_isIn : Cond) ∈ wsC := List.mem_append_right _ (List.mem_append_right _ (List.mem_append_right _ (List.mem_append_right _ (List.mem_append_right _ (List.mem_append_right _ (List.mem_append_right _ (List.mem_append_right _ (List.mem_append_right _ (List.mem_append_right _ (List.mem_append_right _ (List.mem_append_right _ (List.mem_append_right _ (List.mem_append_right _ (List.mem_append_left _ (List.mem_of_getElem? (l := wsC_14) (i := 7) rfl)))))))))))))))
theorem wsCw_358 : (.instanceMethod yX7_isIn : Cond) ∈ wsC := List.mem_append_right _ (List.mem_append_right _ (List.mem_append_right _ (List.mem_append_right _ (List.mem_append_right _ (List.mem_append_right _ (List.mem_append_right _ (List.mem_append_right _ (List.mem_append_right _ (List.mem_append_right _ (List.mem_append_right _ (List.mem_append_right _ (List.mem_append_right _ (List.mem_append_right _ (List.mem_append_left _ (List.mem_of_getElem? (l := wsC_14) (i := 8) rfl)))))))))))))))
theorem wsCw_359 : (.selects RX7 yX7_isIn yX7_isIn : Cond) ∈ wsC := List.mem_append_right _ (List.mem_append_right _ (List.mem_append_right _ (List.mem_append_right _ (List.mem_append_right _ (List.mem_append_right _ (List.mem_append_right _ (List.mem_append_right _ (List.mem_append_right _ (List.mem_append_right _ (List.mem_append_right _ (List.mem_append_right _ (List.mem_append_right _ (List.mem_append_right _ (List.mem_append_left _ (List.mem_of_getElem? (l := wsC_14) (i := 9) rfl)))))))))))))))
theorem wsCw_360 : (.code yX7_isIn cX7_isIn 3 (some .boolean) : Cond) ∈ wsC := List.mem_append_right _ (List.mem_append_right _ (List.mem_append_right _ (List.mem_append_right _ (List.mem_append_right _ (List.mem_append_right _ (List.mem_append_right _ (List.mem_append_right _ (List.mem_append_right _ (List.mem_append_right _ (List.mem_append_right _ (List.mem_append_right _ (List.mem_append_right _ (List.mem_append_right _ (List.mem_append_left _ (List.mem_of_getElem? (l := wsC_14) (i := 10) rfl)))))))))))))))
theorem wsCw_361 : (.methodLink RX8 76 yX7_isBehind : Cond) ∈ wsC := List.mem_append_right _ (List.mem_append_right _ (List.mem_append_right _ (List.mem_append_right _ (List.mem_append_right _ (List.mem_append_right _ (List.mem_append_right _ (List.mem_append_right _ (List.mem_append_right _ (List.mem_append_right _ (List.mem_append_right _ (List.mem_append_right _ (List.mem_append_right _ (List.mem_append_right _ (List.mem_append_left _ (List.mem_of_getElem? (l := wsC_14) (i := 11) rfl)))))))))))))))
theorem wsCw_362 : (.instanceMethod yX7_isBehind : Cond) ∈ wsC := List.mem_append_right _ (List.mem_append_right _ (List.mem_append_right _ (List.mem_append_right _ (List.mem_append_right _ (List.mem_append_right _ (List.mem_append_right _ (List.mem_append_right _ (List.mem_append_right _ (List.mem_append_right _ (List.mem_append_right _ (List.mem_append_right _ (List.mem_append_right _ (List.mem_append_right _ (List.mem_append_left _ (List.mem_of_getElem? (l := wsC_14) (i := 12) rfl)))))))))))))))
theorem wsCw_363 : (.selects RX7 yX7_isBehind yX7_isBehind : Cond) ∈ wsC := List.mem_append_right _ (List.mem_append_right _ (List.mem_append_right _ (List.mem_append_right _ (List.mem_append_right _ (List.mem_append_right _ (List.mem_append_right _ (List.mem_append_right _ (List.mem_append_right _ (List.mem_append_right _ (List.mem_append_right _ (List.mem_append_right _ (List.mem_append_right _ (List.mem_append_right _ (List.mem_append_left _ (List.mem_of_getElem? (l := wsC_14) (i := 13) rfl)))))))))))))))
theorem wsCw_364 : (.code yX7_isBehind cX7_isBehind 2 (some .boolean) : Cond) ∈ wsC := List.mem_append_right _ (List.mem_append_right _ (List.mem_append_right _ (List.mem_append_right _ (List.mem_append_right _ (List.mem_append_right _ (List.mem_append_right _ (List.mem_append_right _ (List.mem_append_right _ (List.mem_append_right _ (List.mem_append_right _ (List.mem_append_right _ (List.mem_append_right _ (List.mem_append_right _ (List.mem_append_left _ (List.mem_of_getElem? (l := wsC_14) (i := 14) rfl)))))))))))))))
theorem wsCw_365 : (.fieldLink RX6 187 "MillstreamPayments$Payment" "finalDay" "I" : Cond) ∈ wsC := List.mem_append_right _ (List.mem_append_right _ (List.mem_append_right _ (List.mem_append_right _ (List.mem_append_right _ (List.mem_append_right _ (List.mem_append_right _ (List.mem_append_right _ (List.mem_append_right _ (List.mem_append_right _ (List.mem_append_right _ (List.mem_append_right _ (List.mem_append_right _ (List.mem_append_right _ (List.mem_append_left _ (List.mem_of_getElem? (l := wsC_14) (i := 15) rfl)))))))))))))))
theorem wsCw_366 : (.methodLink RX6 181 yX2_has : Cond) ∈ wsC := List.mem_append_right _ (List.mem_append_right _ (List.mem_append_right _ (List.mem_append_right _ (List.mem_append_right _ (List.mem_append_right _ (List.mem_append_right _ (List.mem_append_right _ (List.mem_append_right _ (List.mem_append_right _ (List.mem_append_right _ (List.mem_append_right _ (List.mem_append_right _ (List.mem_append_right _ (List.mem_append_left _ (List.mem_of_getElem? (l := wsC_14) (i := 16) rfl)))))))))))))))
theorem wsCw_367 : (.instanceMethod yX2_has : Cond) ∈ wsC := List.mem_append_right _ (List.mem_append_right _ (List.mem_append_right _ (List.mem_append_right _ (List.mem_append_right _ (List.mem_append_right _ (List.mem_append_right _ (List.mem_append_right _ (List.mem_append_right _ (List.mem_append_right _ (List.mem_append_right _ (List.mem_append_right _ (List.mem_append_right _ (List.mem_append_right _ (List.mem_append_left _ (List.mem_of_getElem? (l := wsC_14) (i := 17) rfl)))))))))))))))
theorem wsCw_368 : (.selects RX2 yX2_has yX2_has : Cond) ∈ wsC := List.mem_append_right _ (List.mem_append_right _ (List.mem_append_right _ (List.mem_append_right _ (List.mem_append_right _ (List.mem_append_right _ (List.mem_append_right _ (List.mem_append_right _ (List.mem_append_right _ (List.mem_append_right _ (List.mem_append_right _ (List.mem_append_right _ (List.mem_append_right _ (List.mem_append_right _ (List.mem_append_left _ (List.mem_of_getElem? (l := wsC_14) (i := 18) rfl)))))))))))))))
theorem wsCw_369 : (.code yX2_has cX2_has 2 (some .boolean) : Cond) ∈ wsC := List.mem_append_right _ (List.mem_append_right _ (List.mem_append_right _ (List.mem_append_right _ (List.mem_append_right _ (List.mem_append_right _ (List.mem_append_right _ (List.mem_append_right _ (List.mem_append_right _ (List.mem_append_right _ (List.mem_append_right _ (List.mem_append_right _ (List.mem_append_right _ (List.mem_append_right _ (List.mem_append_left _ (List.mem_of_getElem? (l := wsC_14) (i := 19) rfl)))))))))))))))
theorem wsCw_370 : (.methodLink RX6 190 yX0_pay : Cond) ∈ wsC := List.mem_append_right _ (List.mem_append_right _ (List.mem_append_right _ (List.mem_append_right _ (List.mem_append_right _ (List.mem_append_right _ (List.mem_append_right _ (List.mem_append_right _ (List.mem_append_right _ (List.mem_append_right _ (List.mem_append_right _ (List.mem_append_right _ (List.mem_append_right _ (List.mem_append_right _ (List.mem_append_left _ (List.mem_of_getElem? (l := wsC_14) (i := 20) rfl)))))))))))))))
theorem wsCw_371 : (.instanceMethod yX0_pay : Cond) ∈ wsC := List.mem_append_right _ (List.mem_append_right _ (List.mem_append_right _ (List.mem_append_right _ (List.mem_append_right _ (List.mem_append_right _ (List.mem_append_right _ (List.mem_append_right _ (List.mem_append_right _ (List.mem_append_right _ (List.mem_append_right _ (List.mem_append_right _ (List.mem_append_right _ (List.mem_append_right _ (List.mem_append_left _ (List.mem_of_getElem? (l := wsC_14) (i := 21) rfl)))))))))))))))
theorem wsCw_372 : (.selects RX0 yX0_pay yX0_pay : Cond) ∈ wsC := List.mem_append_right _ (List.mem_append_right _ (List.mem_append_right _ (List.mem_append_right _ (List.mem_append_right _ (List.mem_append_right _ (List.mem_append_right _ (List.mem_append_right _ (List.mem_append_right _ (List.mem_append_right _ (List.mem_append_right _ (List.mem_append_right _ (List.mem_append_right _ (List.mem_append_right _ (List.mem_append_left _ (List.mem_of_getElem? (l := wsC_14) (i := 22) rfl)))))))))))))))
theorem wsCw_373 : (.code yX0_pay cX0_pay 3 none : Cond) ∈ wsC := List.mem_append_right _ (List.mem_append_right _ (List.mem_append_right _ (List.mem_append_right _ (List.mem_append_right _ (List.mem_append_right _ (List.mem_append_right _ (List.mem_append_right _ (List.mem_append_right _ (List.mem_append_right _ (List.mem_append_right _ (List.mem_append_right _ (List.mem_append_right _ (List.mem_append_right _ (List.mem_append_left _ (List.mem_of_getElem? (l := wsC_14) (i := 23) rfl)))))))))))))))
theorem wsCw_374 : (.methodLink RX6 194 yX1_tell : Cond) ∈ wsC := List.mem_append_right _ (List.mem_append_right _ (List.mem_append_right _ (List.mem_append_right _ (List.mem_append_right _ (List.mem_append_right _ (List.mem_append_right _ (List.mem_append_right _ (List.mem_append_right _ (List.mem_append_right _ (List.mem_append_right _ (List.mem_append_right _ (List.mem_append_right _ (List.mem_append_right _ (List.mem_append_left _ (List.mem_of_getElem? (l := wsC_14) (i := 24) rfl)))))))))))))))
theorem wsCw_375 : (.instanceMethod yX1_tell : Cond) ∈ wsC := List.mem_append_right _ (List.mem_append_right _ (List.mem_append_right _ (List.mem_append_right _ (List.mem_append_right _ (List.mem_append_right _ (List.mem_append_right _ (List.mem_append_right _ (List.mem_append_right _ (List.mem_append_right _ (List.mem_append_right _ (List.mem_append_right _ (List.mem_append_right _ (List.mem_append_right _ (List.mem_append_right _ (List.mem_append_left _ (List.mem_of_getElem? (l := wsC_15) (i := 0) rfl))))))))))))))))
theorem wsCw_376 : (.selects RX1 yX1_tell yX1_tell : Cond) ∈ wsC := List.mem_append_right _ (List.mem_append_right _ (List.mem_append_right _ (List.mem_append_right _ (List.mem_append_right _ (List.mem_append_right _ (List.mem_append_right _ (List.mem_append_right _ (List.mem_append_right _ (List.mem_append_right _ (List.mem_append_right _ (List.mem_append_right _ (List.mem_append_right _ (List.mem_append_right _ (List.mem_append_right _ (List.mem_append_left _ (List.mem_of_getElem? (l := wsC_15) (i := 1) rfl))))))))))))))))
theorem wsCw_377 : (.code yX1_tell cX1_tell 3 none : Cond) ∈ wsC := List.mem_append_right _ (List.mem_append_right _ (List.mem_append_right _ (List.mem_append_right _ (List.mem_append_right _ (List.mem_append_right _ (List.mem_append_right _ (List.mem_append_right _ (List.mem_append_right _ (List.mem_append_right _ (List.mem_append_right _ (List.mem_append_right _ (List.mem_append_right _ (List.mem_append_right _ (List.mem_append_right _ (List.mem_append_left _ (List.mem_of_getElem? (l := wsC_15) (i := 2) rfl))))))))))))))))
theorem wsCw_378 : (.fieldLink RX6 147 "MillstreamPayments$Payment" "leg" "LMillstreamPayments$Payment;" : Cond) ∈ wsC := List.mem_append_right _ (List.mem_append_right _ (List.mem_append_right _ (List.mem_append_right _ (List.mem_append_right _ (List.mem_append_right _ (List.mem_append_right _ (List.mem_append_right _ (List.mem_append_right _ (List.mem_append_right _ (List.mem_append_right _ (List.mem_append_right _ (List.mem_append_right _ (List.mem_append_right _ (List.mem_append_right _ (List.mem_append_left _ (List.mem_of_getElem? (l := wsC_15) (i := 3) rfl))))))))))))))))
theorem wsCw_379 : (.methodLink RX6 133 yX8_nextQueued : Cond) ∈ wsC := List.mem_append_right _ (List.mem_append_right _ (List.mem_append_right _ (List.mem_append_right _ (List.mem_append_right _ (List.mem_append_right _ (List.mem_append_right _ (List.mem_append_right _ (List.mem_append_right _ (List.mem_append_right _ (List.mem_append_right _ (List.mem_append_right _ (List.mem_append_right _ (List.mem_append_right _ (List.mem_append_right _ (List.mem_append_left _ (List.mem_of_getElem? (l := wsC_15) (i := 4) rfl))))))))))))))))
theorem wsCw_380 : (.instanceMethod yX8_nextQueued : Cond) ∈ wsC := List.mem_append_right _ (List.mem_append_right _ (List.mem_append_right _ (List.mem_append_right _ (List.mem_append_right _ (List.mem_append_right _ (List.mem_append_right _ (List.mem_append_right _ (List.mem_append_right _ (List.mem_append_right _ (List.mem_append_right _ (List.mem_append_right _ (List.mem_append_right _ (List.mem_append_right _ (List.mem_append_right _ (List.mem_append_left _ (List.mem_of_getElem? (l := wsC_15) (i := 5) rfl))))))))))))))))
theorem wsCw_381 : (.selects RX8 yX8_nextQueued yX8_nextQueued : Cond) ∈ wsC := List.mem_append_right _ (List.mem_append_right _ (List.mem_append_right _ (List.mem_append_right _ (List.mem_append_right _ (List.mem_append_right _ (List.mem_append_right _ (List.mem_append_right _ (List.mem_append_right _ (List.mem_append_right _ (List.mem_append_right _ (List.mem_append_right _ (List.mem_append_right _ (List.mem_append_right _ (List.mem_append_right _ (List.mem_append_left _ (List.mem_of_getElem? (l := wsC_15) (i := 6) rfl))))))))))))))))
theorem wsCw_382 : (.code yX8_nextQueued cX8_nextQueued 7 (some (.object "MillstreamPayments$Payment")) : Cond) ∈ wsC := List.mem_append_right _ (List.mem_append_right _ (List.mem_append_right _ (List.mem_append_right _ (List.mem_append_right _ (List.mem_append_right _ (List.mem_append_right _ (List.mem_append_right _ (List.mem_append_right _ (List.mem_append_right _ (List.mem_append_right _ (List.mem_append_right _ (List.mem_append_right _ (List.mem_append_right _ (List.mem_append_right _ (List.mem_append_left _ (List.mem_of_getElem? (l := wsC_15) (i := 7) rfl))))))))))))))))
theorem wsCw_383 : (.methodLink RX6 137 yX6_mayMove : Cond) ∈ wsC := List.mem_append_right _ (List.mem_append_right _ (List.mem_append_right _ (List.mem_append_right _ (List.mem_append_right _ (List.mem_append_right _ (List.mem_append_right _ (List.mem_append_right _ (List.mem_append_right _ (List.mem_append_right _ (List.mem_append_right _ (List.mem_append_right _ (List.mem_append_right _ (List.mem_append_right _ (List.mem_append_right _ (List.mem_append_left _ (List.mem_of_getElem? (l := wsC_15) (i := 8) rfl))))))))))))))))
theorem wsCw_384 : (.instanceMethod yX6_mayMove : Cond) ∈ wsC := List.mem_append_right _ (List.mem_append_right _ (List.mem_append_right _ (List.mem_append_right _ (List.mem_append_right _ (List.mem_append_right _ (List.mem_append_right _ (List.mem_append_right _ (List.mem_append_right _ (List.mem_append_right _ (List.mem_append_right _ (List.mem_append_right _ (List.mem_append_right _ (List.mem_append_right _ (List.mem_append_right _ (List.mem_append_left _ (List.mem_of_getElem? (l := wsC_15) (i := 9) rfl))))))))))))))))
theorem wsCw_385 : (.selects RX6 yX6_mayMove yX6_mayMove : Cond) ∈ wsC := List.mem_append_right _ (List.mem_append_right _ (List.mem_append_right _ (List.mem_append_right _ (List.mem_append_right _ (List.mem_append_right _ (List.mem_append_right _ (List.mem_append_right _ (List.mem_append_right _ (List.mem_append_right _ (List.mem_append_right _ (List.mem_append_right _ (List.mem_append_right _ (List.mem_append_right _ (List.mem_append_right _ (List.mem_append_left _ (List.mem_of_getElem? (l := wsC_15) (i := 10) rfl))))))))))))))))
theorem wsCw_386 : (.code yX6_mayMove cX6_mayMove 2 (some .boolean) : Cond) ∈ wsC := List.mem_append_right _ (List.mem_append_right _ (List.mem_append_right _ (List.mem_append_right _ (List.mem_append_right _ (List.mem_append_right _ (List.mem_append_right _ (List.mem_append_right _ (List.mem_append_right _ (List.mem_append_right _ (List.mem_append_right _ (List.mem_append_right _ (List.mem_append_right _ (List.mem_append_right _ (List.mem_append_right _ (List.mem_append_left _ (List.mem_of_getElem? (l := wsC_15) (i := 11) rfl))))))))))))))))
theorem wsCw_387 : (.methodLink RX6 141 yX2_clear : Cond) ∈ wsC := List.mem_append_right _ (List.mem_append_right _ (List.mem_append_right _ (List.mem_append_right _ (List.mem_append_right _ (List.mem_append_right _ (List.mem_append_right _ (List.mem_append_right _ (List.mem_append_right _ (List.mem_append_right _ (List.mem_append_right _ (List.mem_append_right _ (List.mem_append_right _ (List.mem_append_right _ (List.mem_append_right _ (List.mem_append_left _ (List.mem_of_getElem? (l := wsC_15) (i := 12) rfl))))))))))))))))
theorem wsCw_388 : (.instanceMethod yX2_clear : Cond) ∈ wsC := List.mem_append_right _ (List.mem_append_right _ (List.mem_append_right _ (List.mem_append_right _ (List.mem_append_right _ (List.mem_append_right _ (List.mem_append_right _ (List.mem_append_right _ (List.mem_append_right _ (List.mem_append_right _ (List.mem_append_right _ (List.mem_append_right _ (List.mem_append_right _ (List.mem_append_right _ (List.mem_append_right _ (List.mem_append_left _ (List.mem_of_getElem? (l := wsC_15) (i := 13) rfl))))))))))))))))
theorem wsCw_389 : (.selects RX2 yX2_clear yX2_clear : Cond) ∈ wsC := List.mem_append_right _ (List.mem_append_right _ (List.mem_append_right _ (List.mem_append_right _ (List.mem_append_right _ (List.mem_append_right _ (List.mem_append_right _ (List.mem_append_right _ (List.mem_append_right _ (List.mem_append_right _ (List.mem_append_right _ (List.mem_append_right _ (List.mem_append_right _ (List.mem_append_right _ (List.mem_append_right _ (List.mem_append_left _ (List.mem_of_getElem? (l := wsC_15) (i := 14) rfl))))))))))))))))
theorem wsCw_390 : (.code yX2_clear cX2_clear 1 none : Cond) ∈ wsC := List.mem_append_right _ (List.mem_append_right _ (List.mem_append_right _ (List.mem_append_right _ (List.mem_append_right _ (List.mem_append_right _ (List.mem_append_right _ (List.mem_append_right _ (List.mem_append_right _ (List.mem_append_right _ (List.mem_append_right _ (List.mem_append_right _ (List.mem_append_right _ (List.mem_append_right _ (List.mem_append_right _ (List.mem_append_left _ (List.mem_of_getElem? (l := wsC_15) (i := 15) rfl))))))))))))))))
theorem wsCw_391 : (.methodLink RX6 144 yX2_put : Cond) ∈ wsC := List.mem_append_right _ (List.mem_append_right _ (List.mem_append_right _ (List.mem_append_right _ (List.mem_append_right _ (List.mem_append_right _ (List.mem_append_right _ (List.mem_append_right _ (List.mem_append_right _ (List.mem_append_right _ (List.mem_append_right _ (List.mem_append_right _ (List.mem_append_right _ (List.mem_append_right _ (List.mem_append_right _ (List.mem_append_left _ (List.mem_of_getElem? (l := wsC_15) (i := 16) rfl))))))))))))))))
theorem wsCw_392 : (.instanceMethod yX2_put : Cond) ∈ wsC := List.mem_append_right _ (List.mem_append_right _ (List.mem_append_right _ (List.mem_append_right _ (List.mem_append_right _ (List.mem_append_right _ (List.mem_append_right _ (List.mem_append_right _ (List.mem_append_right _ (List.mem_append_right _ (List.mem_append_right _ (List.mem_append_right _ (List.mem_append_right _ (List.mem_append_right _ (List.mem_append_right _ (List.mem_append_left _ (List.mem_of_getElem? (l := wsC_15) (i := 17) rfl))))))))))))))))
theorem wsCw_393 : (.selects RX2 yX2_put yX2_put : Cond) ∈ wsC := List.mem_append_right _ (List.mem_append_right _ (List.mem_append_right _ (List.mem_append_right _ (List.mem_append_right _ (List.mem_append_right _ (List.mem_append_right _ (List.mem_append_right _ (List.mem_append_right _ (List.mem_append_right _ (List.mem_append_right _ (List.mem_append_right _ (List.mem_append_right _ (List.mem_append_right _ (List.mem_append_right _ (List.mem_append_left _ (List.mem_of_getElem? (l := wsC_15) (i := 18) rfl))))))))))))))))
theorem wsCw_394 : (.code yX2_put cX2_put 2 none : Cond) ∈ wsC := List.mem_append_right _ (List.mem_append_right _ (List.mem_append_right _ (List.mem_append_right _ (List.mem_append_right _ (List.mem_append_right _ (List.mem_append_right _ (List.mem_append_right _ (List.mem_append_right _ (List.mem_append_right _ (List.mem_append_right _ (List.mem_append_right _ (List.mem_append_right _ (List.mem_append_right _ (List.mem_append_right _ (List.mem_append_left _ (List.mem_of_getElem? (l := wsC_15) (i := 19) rfl))))))))))))))))
theorem wsCw_395 : (.methodLink RX6 151 yX2_isWithinBounds : Cond) ∈ wsC := List.mem_append_right _ (List.mem_append_right _ (List.mem_append_right _ (List.mem_append_right _ (List.mem_append_right _ (List.mem_append_right _ (List.mem_append_right _ (List.mem_append_right _ (List.mem_append_right _ (List.mem_append_right _ (List.mem_append_right _ (List.mem_append_right _ (List.mem_append_right _ (List.mem_append_right _ (List.mem_append_right _ (List.mem_append_left _ (List.mem_of_getElem? (l := wsC_15) (i := 20) rfl))))))))))))))))
theorem wsCw_396 : (.instanceMethod yX2_isWithinBounds : Cond) ∈ wsC := List.mem_append_right _ (List.mem_append_right _ (List.mem_append_right _ (List.mem_append_right _ (List.mem_append_right _ (List.mem_append_right _ (List.mem_append_right _ (List.mem_append_right _ (List.mem_append_right _ (List.mem_append_right _ (List.mem_append_right _ (List.mem_append_right _ (List.mem_append_right _ (List.mem_append_right _ (List.mem_append_right _ (List.mem_append_left _ (List.mem_of_getElem? (l := wsC_15) (i := 21) rfl))))))))))))))))
theorem wsCw_397 : (.selects RX2 yX2_isWithinBounds yX2_isWithinBounds : Cond) ∈ wsC := List.mem_append_right _ (List.mem_append_right _ (List.mem_append_right _ (List.mem_append_right _ (List.mem_append_right _ (List.mem_append_right _ (List.mem_append_right _ (List.mem_append_right _ (List.mem_append_right _ (List.mem_append_right _ (List.mem_append_right _ (List.mem_append_right _ (List.mem_append_right _ (List.mem_append_right _ (List.mem_append_right _ (List.mem_append_left _ (List.mem_of_getElem? (l := wsC_15) (i := 22) rfl))))))))))))))))
theorem wsCw_398 : (.code yX2_isWithinBounds cX2_isWithinBounds 5 (some .boolean) : Cond) ∈ wsC := List.mem_append_right _ (List.mem_append_right _ (List.mem_append_right _ (List.mem_append_right _ (List.mem_append_right _ (List.mem_append_right _ (List.mem_append_right _ (List.mem_append_right _ (List.mem_append_right _ (List.mem_append_right _ (List.mem_append_right _ (List.mem_append_right _ (List.mem_append_right _ (List.mem_append_right _ (List.mem_append_right _ (List.mem_append_left _ (List.mem_of_getElem? (l := wsC_15) (i := 23) rfl))))))))))))))))
theorem wsCw_399 : (.methodLink RX6 155 yX6_settleBatch : Cond) ∈ wsC := List.mem_append_right _ (List.mem_append_right _ (List.mem_append_right _ (List.mem_append_right _ (List.mem_append_right _ (List.mem_append_right _ (List.mem_append_right _ (List.mem_append_right _ (List.mem_append_right _ (List.mem_append_right _ (List.mem_append_right _ (List.mem_append_right _ (List.mem_append_right _ (List.mem_append_right _ (List.mem_append_right _ (List.mem_append_left _ (List.mem_of_getElem? (l := wsC_15) (i := 24) rfl))))))))))))))))
theorem wsCw_400 : (.instanceMethod yX6_settleBatch : Cond) ∈ wsC := List.mem_append_right _ (List.mem_append_right _ (List.mem_append_right _ (List.mem_append_right _ (List.mem_append_right _ (List.mem_append_right _ (List.mem_append_right _ (List.mem_append_right _ (List.mem_append_right _ (List.mem_append_right _ (List.mem_append_right _ (List.mem_append_right _ (List.mem_append_right _ (List.mem_append_right _ (List.mem_append_right _ (List.mem_append_right _ (List.mem_append_left _ (List.mem_of_getElem? (l := wsC_16) (i := 0) rfl)))))))))))))))))
theorem wsCw_401 : (.selects RX6 yX6_settleBatch yX6_settleBatch : Cond) ∈ wsC := List.mem_append_right _ (List.mem_append_right _ (List.mem_append_right _ (List.mem_append_right _ (List.mem_append_right _ (List.mem_append_right _ (List.mem_append_right _ (List.mem_append_right _ (List.mem_append_right _ (List.mem_append_right _ (List.mem_append_right _ (List.mem_append_right _ (List.mem_append_right _ (List.mem_append_right _ (List.mem_append_right _ (List.mem_append_right _ (List.mem_append_left _ (List.mem_of_getElem? (l := wsC_16) (i := 1) rfl)))))))))))))))))
theorem wsCw_402 : (.code yX6_settleBatch cX6_settleBatch 4 (some .int) : Cond) ∈ wsC := List.mem_append_right _ (List.mem_append_right _ (List.mem_append_right _ (List.mem_append_right _ (List.mem_append_right _ (List.mem_append_right _ (List.mem_append_right _ (List.mem_append_right _ (List.mem_append_right _ (List.mem_append_right _ (List.mem_append_right _ (List.mem_append_right _ (List.mem_append_right _ (List.mem_append_right _ (List.mem_append_right _ (List.mem_append_right _ (List.mem_append_left _ (List.mem_of_getElem? (l := wsC_16) (i := 2) rfl)))))))))))))))))
theorem wsCw_403 : (.methodLink RX6 129 yX6_settleFirst : Cond) ∈ wsC := List.mem_append_right _ (List.mem_append_right _ (List.mem_append_right _ (List.mem_append_right _ (List.mem_append_right _ (List.mem_append_right _ (List.mem_append_right _ (List.mem_append_right _ (List.mem_append_right _ (List.mem_append_right _ (List.mem_append_right _ (List.mem_append_right _ (List.mem_append_right _ (List.mem_append_right _ (List.mem_append_right _ (List.mem_append_right _ (List.mem_append_left _ (List.mem_of_getElem? (l := wsC_16) (i := 3) rfl)))))))))))))))))
theorem wsCw_404 : (.instanceMethod yX6_settleFirst : Cond) ∈ wsC := List.mem_append_right _ (List.mem_append_right _ (List.mem_append_right _ (List.mem_append_right _ (List.mem_append_right _ (List.mem_append_right _ (List.mem_append_right _ (List.mem_append_right _ (List.mem_append_right _ (List.mem_append_right _ (List.mem_append_right _ (List.mem_append_right _ (List.mem_append_right _ (List.mem_append_right _ (List.mem_append_right _ (List.mem_append_right _ (List.mem_append_left _ (List.mem_of_getElem? (l := wsC_16) (i := 4) rfl)))))))))))))))))
theorem wsCw_405 : (.selects RX6 yX6_settleFirst yX6_settleFirst : Cond) ∈ wsC := List.mem_append_right _ (List.mem_append_right _ (List.mem_append_right _ (List.mem_append_right _ (List.mem_append_right _ (List.mem_append_right _ (List.mem_append_right _ (List.mem_append_right _ (List.mem_append_right _ (List.mem_append_right _ (List.mem_append_right _ (List.mem_append_right _ (List.mem_append_right _ (List.mem_append_right _ (List.mem_append_right _ (List.mem_append_right _ (List.mem_append_left _ (List.mem_of_getElem? (l := wsC_16) (i := 5) rfl)))))))))))))))))
theorem wsCw_406 : (.code yX6_settleFirst cX6_settleFirst 5 (some .int) : Cond) ∈ wsC := List.mem_append_right _ (List.mem_append_right _ (List.mem_append_right _ (List.mem_append_right _ (List.mem_append_right _ (List.mem_append_right _ (List.mem_append_right _ (List.mem_append_right _ (List.mem_append_right _ (List.mem_append_right _ (List.mem_append_right _ (List.mem_append_right _ (List.mem_append_right _ (List.mem_append_right _ (List.mem_append_right _ (List.mem_append_right _ (List.mem_append_left _ (List.mem_of_getElem? (l := wsC_16) (i := 6) rfl)))))))))))))))))
theorem wsCw_407 : (.methodLink RX6 184 yX7_isBehind : Cond) ∈ wsC := List.mem_append_right _ (List.mem_append_right _ (List.mem_append_right _ (List.mem_append_right _ (List.mem_append_right _ (List.mem_append_right _ (List.mem_append_right _ (List.mem_append_right _ (List.mem_append_right _ (List.mem_append_right _ (List.mem_append_right _ (List.mem_append_right _ (List.mem_append_right _ (List.mem_append_right _ (List.mem_append_right _ (List.mem_append_right _ (List.mem_append_left _ (List.mem_of_getElem? (l := wsC_16) (i := 7) rfl)))))))))))))))))
theorem wsCw_408 : (.methodLink RX6 169 yX2_lowestTooLow : Cond) ∈ wsC := List.mem_append_right _ (List.mem_append_right _ (List.mem_append_right _ (List.mem_append_right _ (List.mem_append_right _ (List.mem_append_right _ (List.mem_append_right _ (List.mem_append_right _ (List.mem_append_right _ (List.mem_append_right _ (List.mem_append_right _ (List.mem_append_right _ (List.mem_append_right _ (List.mem_append_right _ (List.mem_append_right _ (List.mem_append_right _ (List.mem_append_left _ (List.mem_of_getElem? (l := wsC_16) (i := 8) rfl)))))))))))))))))
theorem wsCw_409 : (.methodLink RX6 173 yX6_lastInBatch : Cond) ∈ wsC := List.mem_append_right _ (List.mem_append_right _ (List.mem_append_right _ (List.mem_append_right _ (List.mem_append_right _ (List.mem_append_right _ (List.mem_append_right _ (List.mem_append_right _ (List.mem_append_right _ (List.mem_append_right _ (List.mem_append_right _ (List.mem_append_right _ (List.mem_append_right _ (List.mem_append_right _ (List.mem_append_right _ (List.mem_append_right _ (List.mem_append_left _ (List.mem_of_getElem? (l := wsC_16) (i := 9) rfl)))))))))))))))))
theorem wsCw_410 : (.instanceMethod yX6_lastInBatch : Cond) ∈ wsC := List.mem_append_right _ (List.mem_append_right _ (List.mem_append_right _ (List.mem_append_right _ (List.mem_append_right _ (List.mem_append_right _ (List.mem_append_right _ (List.mem_append_right _ (List.mem_append_right _ (List.mem_append_right _ (List.mem_append_right _ (List.mem_append_right _ (List.mem_append_right _ (List.mem_append_right _ (List.mem_append_right _ (List.mem_append_right _ (List.mem_append_left _ (List.mem_of_getElem? (l := wsC_16) (i := 10) rfl)))))))))))))))))
theorem wsCw_411 : (.selects RX6 yX6_lastInBatch yX6_lastInBatch : Cond) ∈ wsC := List.mem_append_right _ (List.mem_append_right _ (List.mem_append_right _ (List.mem_append_right _ (List.mem_append_right _ (List.mem_append_right _ (List.mem_append_right _ (List.mem_append_right _ (List.mem_append_right _ (List.mem_append_right _ (List.mem_append_right _ (List.mem_append_right _ (List.mem_append_right _ (List.mem_append_right _ (List.mem_append_right _ (List.mem_append_right _ (List.mem_append_left _ (List.mem_of_getElem? (l := wsC_16) (i := 11) rfl)))))))))))))))))
theorem wsCw_412 : (.code yX6_lastInBatch cX6_lastInBatch 7 (some (.object "MillstreamPayments$Payment")) : Cond) ∈ wsC := List.mem_append_right _ (List.mem_append_right _ (List.mem_append_right _ (List.mem_append_right _ (List.mem_append_right _ (List.mem_append_right _ (List.mem_append_right _ (List.mem_append_right _ (List.mem_append_right _ (List.mem_append_right _ (List.mem_append_right _ (List.mem_append_right _ (List.mem_append_right _ (List.mem_append_right _ (List.mem_append_right _ (List.mem_append_right _ (List.mem_append_left _ (List.mem_of_getElem? (l := wsC_16) (i := 12) rfl)))))))))))))))))
theorem wsCw_413 : (.methodLink RX6 177 yX2_passesLimit : Cond) ∈ wsC := List.mem_append_right _ (List.mem_append_right _ (List.mem_append_right _ (List.mem_append_right _ (List.mem_append_right _ (List.mem_append_right _ (List.mem_append_right _ (List.mem_append_right _ (List.mem_append_right _ (List.mem_append_right _ (List.mem_append_right _ (List.mem_append_right _ (List.mem_append_right _ (List.mem_append_right _ (List.mem_append_right _ (List.mem_append_right _ (List.mem_append_left _ (List.mem_of_getElem? (l := wsC_16) (i := 13) rfl)))))))))))))))))
theorem wsCw_414 : (.methodLink RX6 158 yX7_isIn : Cond) ∈ wsC := List.mem_append_right _ (List.mem_append_right _ (List.mem_append_right _ (List.mem_append_right _ (List.mem_append_right _ (List.mem_append_right _ (List.mem_append_right _ (List.mem_append_right _ (List.mem_append_right _ (List.mem_append_right _ (List.mem_append_right _ (List.mem_append_right _ (List.mem_append_right _ (List.mem_append_right _ (List.mem_append_right _ (List.mem_append_right _ (List.mem_append_left _ (List.mem_of_getElem? (l := wsC_16) (i := 14) rfl)))))))))))))))))
theorem wsCw_415 : (.methodLink RX6 162 yX6_nextToTakeOut : Cond) ∈ wsC := List.mem_append_right _ (List.mem_append_right _ (List.mem_append_right _ (List.mem_append_right _ (List.mem_append_right _ (List.mem_append_right _ (List.mem_append_right _ (List.mem_append_right _ (List.mem_append_right _ (List.mem_append_right _ (List.mem_append_right _ (List.mem_append_right _ (List.mem_append_right _ (List.mem_append_right _ (List.mem_append_right _ (List.mem_append_right _ (List.mem_append_left _ (List.mem_of_getElem? (l := wsC_16) (i := 15) rfl)))))))))))))))))
theorem wsCw_416 : (.instanceMethod yX6_nextToTakeOut : Cond) ∈ wsC := List.mem_append_right _ (List.mem_append_right _ (List.mem_append_right _ (List.mem_append_right _ (List.mem_append_right _ (List.mem_append_right _ (List.mem_append_right _ (List.mem_append_right _ (List.mem_append_right _ (List.mem_append_right _ (List.mem_append_right _ (List.mem_append_right _ (List.mem_append_right _ (List.mem_append_right _ (List.mem_append_right _ (List.mem_append_right _ (List.mem_append_left _ (List.mem_of_getElem? (l := wsC_16) (i := 16) rfl)))))))))))))))))
theorem wsCw_417 : (.selects RX6 yX6_nextToTakeOut yX6_nextToTakeOut : Cond) ∈ wsC := List.mem_append_right _ (List.mem_append_right _ (List.mem_append_right _ (List.mem_append_right _ (List.mem_append_right _ (List.mem_append_right _ (List.mem_append_right _ (List.mem_append_right _ (List.mem_append_right _ (List.mem_append_right _ (List.mem_append_right _ (List.mem_append_right _ (List.mem_append_right _ (List.mem_append_right _ (List.mem_append_right _ (List.mem_append_right _ (List.mem_append_left _ (List.mem_of_getElem? (l := wsC_16) (i := 17) rfl)))))))))))))))))
theorem wsCw_418 : (.code yX6_nextToTakeOut cX6_nextToTakeOut 6 (some (.object "MillstreamPayments$Payment")) : Cond) ∈ wsC := List.mem_append_right _ (List.mem_append_right _ (List.mem_append_right _ (List.mem_append_right _ (List.mem_append_right _ (List.mem_append_right _ (List.mem_append_right _ (List.mem_append_right _ (List.mem_append_right _ (List.mem_append_right _ (List.mem_append_right _ (List.mem_append_right _ (List.mem_append_right _ (List.mem_append_right _ (List.mem_append_right _ (List.mem_append_right _ (List.mem_append_left _ (List.mem_of_getElem? (l := wsC_16) (i := 18) rfl)))))))))))))))))
theorem wsCw_419 : (.methodLink RX6 166 yX2_drop : Cond) ∈ wsC := List.mem_append_right _ (List.mem_append_right _ (List.mem_append_right _ (List.mem_append_right _ (List.mem_append_right _ (List.mem_append_right _ (List.mem_append_right _ (List.mem_append_right _ (List.mem_append_right _ (List.mem_append_right _ (List.mem_append_right _ (List.mem_append_right _ (List.mem_append_right _ (List.mem_append_right _ (List.mem_append_right _ (List.mem_append_right _ (List.mem_append_left _ (List.mem_of_getElem? (l := wsC_16) (i := 19) rfl)))))))))))))))))
theorem wsCw_420 : (.instanceMethod yX2_drop : Cond) ∈ wsC := List.mem_append_right _ (List.mem_append_right _ (List.mem_append_right _ (List.mem_append_right _ (List.mem_append_right _ (List.mem_append_right _ (List.mem_append_right _ (List.mem_append_right _ (List.mem_append_right _ (List.mem_append_right _ (List.mem_append_right _ (List.mem_append_right _ (List.mem_append_right _ (List.mem_append_right _ (List.mem_append_right _ (List.mem_append_right _ (List.mem_append_left _ (List.mem_of_getElem? (l := wsC_16) (i := 20) rfl)))))))))))))))))
theorem wsCw_421 : (.selects RX2 yX2_drop yX2_drop : Cond) ∈ wsC := List.mem_append_right _ (List.mem_append_right _ (List.mem_append_right _ (List.mem_append_right _ (List.mem_append_right _ (List.mem_append_right _ (List.mem_append_right _ (List.mem_append_right _ (List.mem_append_right _ (List.mem_append_right _ (List.mem_append_right _ (List.mem_append_right _ (List.mem_append_right _ (List.mem_append_right _ (List.mem_append_right _ (List.mem_append_right _ (List.mem_append_left _ (List.mem_of_getElem? (l := wsC_16) (i := 21) rfl)))))))))))))))))
theorem wsCw_422 : (.code yX2_drop cX2_drop 2 none : Cond) ∈ wsC := List.mem_append_right _ (List.mem_append_right _ (List.mem_append_right _ (List.mem_append_right _ (List.mem_append_right _ (List.mem_append_right _ (List.mem_append_right _ (List.mem_append_right _ (List.mem_append_right _ (List.mem_append_right _ (List.mem_append_right _ (List.mem_append_right _ (List.mem_append_right _ (List.mem_append_right _ (List.mem_append_right _ (List.mem_append_right _ (List.mem_append_left _ (List.mem_of_getElem? (l := wsC_16) (i := 22) rfl)))))))))))))))))
theorem wsCw_423 : (.fieldLink RX7 43 "MillstreamPayments$Payment" "leg" "LMillstreamPayments$Payment;" : Cond) ∈ wsC := List.mem_append_right _ (List.mem_append_right _ (List.mem_append_right _ (List.mem_append_right _ (List.mem_append_right _ (List.mem_append_right _ (List.mem_append_right _ (List.mem_append_right _ (List.mem_append_right _ (List.mem_append_right _ (List.mem_append_right _ (List.mem_append_right _ (List.mem_append_right _ (List.mem_append_right _ (List.mem_append_right _ (List.mem_append_right _ (List.mem_append_left _ (List.mem_of_getElem? (l := wsC_16) (i := 23) rfl)))))))))))))))))
theorem wsCw_424 : (.methodLink RX7 39 yX7_hasEnded : Cond) ∈ wsC := List.mem_append_right _ (List.mem_append_right _ (List.mem_append_right _ (List.mem_append_right _ (List.mem_append_right _ (List.mem_append_right _ (List.mem_append_right _ (List.mem_append_right _ (List.mem_append_right _ (List.mem_append_right _ (List.mem_append_right _ (List.mem_append_right _ (List.mem_append_right _ (List.mem_append_right _ (List.mem_append_right _ (List.mem_append_right _ (List.mem_append_left _ (List.mem_of_getElem? (l := wsC_16) (i := 24) rfl)))))))))))))))))
theorem wsCw_425 : (.instanceMethod yX7_hasEnded : Cond) ∈ wsC := List.mem_append_right _ (List.mem_append_right _ (List.mem_append_right _ (List.mem_append_right _ (List.mem_append_right _ (List.mem_append_right _ (List.mem_append_right _ (List.mem_append_right _ (List.mem_append_right _ (List.mem_append_right _ (List.mem_append_right _ (List.mem_append_right _ (List.mem_append_right _ (List.mem_append_right _ (List.mem_append_right _ (List.mem_append_right _ (List.mem_append_right _ (List.mem_append_left _ (List.mem_of_getElem? (l := wsC_17) (i := 0) rfl))))))))))))))))))
theorem wsCw_426 : (.selects RX7 yX7_hasEnded yX7_hasEnded : Cond) ∈ wsC := List.mem_append_right _ (List.mem_append_right _ (List.mem_append_right _ (List.mem_append_right _ (List.mem_append_right _ (List.mem_append_right _ (List.mem_append_right _ (List.mem_append_right _ (List.mem_append_right _ (List.mem_append_right _ (List.mem_append_right _ (List.mem_append_right _ (List.mem_append_right _ (List.mem_append_right _ (List.mem_append_right _ (List.mem_append_right _ (List.mem_append_right _ (List.mem_append_left _ (List.mem_of_getElem? (l := wsC_17) (i := 1) rfl))))))))))))))))))
theorem wsCw_427 : (.code yX7_hasEnded cX7_hasEnded 1 (some .boolean) : Cond) ∈ wsC := List.mem_append_right _ (List.mem_append_right _ (List.mem_append_right _ (List.mem_append_right _ (List.mem_append_right _ (List.mem_append_right _ (List.mem_append_right _ (List.mem_append_right _ (List.mem_append_right _ (List.mem_append_right _ (List.mem_append_right _ (List.mem_append_right _ (List.mem_append_right _ (List.mem_append_right _ (List.mem_append_right _ (List.mem_append_right _ (List.mem_append_right _ (List.mem_append_left _ (List.mem_of_getElem? (l := wsC_17) (i := 2) rfl))))))))))))))))))
theorem wsCw_428 : (.fieldLink RX6 213 "MillstreamPayments$Terms" "stays" "Z" : Cond) ∈ wsC := List.mem_append_right _ (List.mem_append_right _ (List.mem_append_right _ (List.mem_append_right _ (List.mem_append_right _ (List.mem_append_right _ (List.mem_append_right _ (List.mem_append_right _ (List.mem_append_right _ (List.mem_append_right _ (List.mem_append_right _ (List.mem_append_right _ (List.mem_append_right _ (List.mem_append_right _ (List.mem_append_right _ (List.mem_append_right _ (List.mem_append_right _ (List.mem_append_left _ (List.mem_of_getElem? (l := wsC_17) (i := 3) rfl))))))))))))))))))
theorem wsCw_429 : (.methodLink RX6 216 yX7_giveBack : Cond) ∈ wsC := List.mem_append_right _ (List.mem_append_right _ (List.mem_append_right _ (List.mem_append_right _ (List.mem_append_right _ (List.mem_append_right _ (List.mem_append_right _ (List.mem_append_right _ (List.mem_append_right _ (List.mem_append_right _ (List.mem_append_right _ (List.mem_append_right _ (List.mem_append_right _ (List.mem_append_right _ (List.mem_append_right _ (List.mem_append_right _ (List.mem_append_right _ (List.mem_append_left _ (List.mem_of_getElem? (l := wsC_17) (i := 4) rfl))))))))))))))))))
theorem wsCw_430 : (.instanceMethod yX7_giveBack : Cond) ∈ wsC := List.mem_append_right _ (List.mem_append_right _ (List.mem_append_right _ (List.mem_append_right _ (List.mem_append_right _ (List.mem_append_right _ (List.mem_append_right _ (List.mem_append_right _ (List.mem_append_right _ (List.mem_append_right _ (List.mem_append_right _ (List.mem_append_right _ (List.mem_append_right _ (List.mem_append_right _ (List.mem_append_right _ (List.mem_append_right _ (List.mem_append_right _ (List.mem_append_left _ (List.mem_of_getElem? (l := wsC_17) (i := 5) rfl))))))))))))))))))
theorem wsCw_431 : (.selects RX7 yX7_giveBack yX7_giveBack : Cond) ∈ wsC := List.mem_append_right _ (List.mem_append_right _ (List.mem_append_right _ (List.mem_append_right _ (List.mem_append_right _ (List.mem_append_right _ (List.mem_append_right _ (List.mem_append_right _ (List.mem_append_right _ (List.mem_append_right _ (List.mem_append_right _ (List.mem_append_right _ (List.mem_append_right _ (List.mem_append_right _ (List.mem_append_right _ (List.mem_append_right _ (List.mem_append_right _ (List.mem_append_left _ (List.mem_of_getElem? (l := wsC_17) (i := 6) rfl))))))))))))))))))
theorem wsCw_432 : (.code yX7_giveBack cX7_giveBack 1 (some .int) : Cond) ∈ wsC := List.mem_append_right _ (List.mem_append_right _ (List.mem_append_right _ (List.mem_append_right _ (List.mem_append_right _ (List.mem_append_right _ (List.mem_append_right _ (List.mem_append_right _ (List.mem_append_right _ (List.mem_append_right _ (List.mem_append_right _ (List.mem_append_right _ (List.mem_append_right _ (List.mem_append_right _ (List.mem_append_right _ (List.mem_append_right _ (List.mem_append_right _ (List.mem_append_left _ (List.mem_of_getElem? (l := wsC_17) (i := 7) rfl))))))))))))))))))
theorem wsCw_433 : (.fieldLink RX8 93 "MillstreamPayments$Payment" "finalDay" "I" : Cond) ∈ wsC := List.mem_append_right _ (List.mem_append_right _ (List.mem_append_right _ (List.mem_append_right _ (List.mem_append_right _ (List.mem_append_right _ (List.mem_append_right _ (List.mem_append_right _ (List.mem_append_right _ (List.mem_append_right _ (List.mem_append_right _ (List.mem_append_right _ (List.mem_append_right _ (List.mem_append_right _ (List.mem_append_right _ (List.mem_append_right _ (List.mem_append_right _ (List.mem_append_left _ (List.mem_of_getElem? (l := wsC_17) (i := 8) rfl))))))))))))))))))
theorem wsCw_434 : (.fieldLink RX8 96 "MillstreamPayments$Terms" "isReal" "Z" : Cond) ∈ wsC := List.mem_append_right _ (List.mem_append_right _ (List.mem_append_right _ (List.mem_append_right _ (List.mem_append_right _ (List.mem_append_right _ (List.mem_append_right _ (List.mem_append_right _ (List.mem_append_right _ (List.mem_append_right _ (List.mem_append_right _ (List.mem_append_right _ (List.mem_append_right _ (List.mem_append_right _ (List.mem_append_right _ (List.mem_append_right _ (List.mem_append_right _ (List.mem_append_left _ (List.mem_of_getElem? (l := wsC_17) (i := 9) rfl))))))))))))))))))
theorem wsCw_435 : (.methodLink RX6 241 yX0_move : Cond) ∈ wsC := List.mem_append_right _ (List.mem_append_right _ (List.mem_append_right _ (List.mem_append_right _ (List.mem_append_right _ (List.mem_append_right _ (List.mem_append_right _ (List.mem_append_right _ (List.mem_append_right _ (List.mem_append_right _ (List.mem_append_right _ (List.mem_append_right _ (List.mem_append_right _ (List.mem_append_right _ (List.mem_append_right _ (List.mem_append_right _ (List.mem_append_right _ (List.mem_append_left _ (List.mem_of_getElem? (l := wsC_17) (i := 10) rfl))))))))))))))))))
theorem wsCw_436 : (.methodLink RX6 223 Lib.MathLoose.max_long.x : Cond) ∈ wsC := List.mem_append_right _ (List.mem_append_right _ (List.mem_append_right _ (List.mem_append_right _ (List.mem_append_right _ (List.mem_append_right _ (List.mem_append_right _ (List.mem_append_right _ (List.mem_append_right _ (List.mem_append_right _ (List.mem_append_right _ (List.mem_append_right _ (List.mem_append_right _ (List.mem_append_right _ (List.mem_append_right _ (List.mem_append_right _ (List.mem_append_right _ (List.mem_append_left _ (List.mem_of_getElem? (l := wsC_17) (i := 11) rfl))))))))))))))))))
theorem wsCw_437 : (.constantLong RX6 237 (99) : Cond) ∈ wsC := List.mem_append_right _ (List.mem_append_right _ (List.mem_append_right _ (List.mem_append_right _ (List.mem_append_right _ (List.mem_append_right _ (List.mem_append_right _ (List.mem_append_right _ (List.mem_append_right _ (List.mem_append_right _ (List.mem_append_right _ (List.mem_append_right _ (List.mem_append_right _ (List.mem_append_right _ (List.mem_append_right _ (List.mem_append_right _ (List.mem_append_right _ (List.mem_append_left _ (List.mem_of_getElem? (l := wsC_17) (i := 12) rfl))))))))))))))))))
theorem wsCw_438 : (.constantLong RX6 239 (100) : Cond) ∈ wsC := List.mem_append_right _ (List.mem_append_right _ (List.mem_append_right _ (List.mem_append_right _ (List.mem_append_right _ (List.mem_append_right _ (List.mem_append_right _ (List.mem_append_right _ (List.mem_append_right _ (List.mem_append_right _ (List.mem_append_right _ (List.mem_append_right _ (List.mem_append_right _ (List.mem_append_right _ (List.mem_append_right _ (List.mem_append_right _ (List.mem_append_right _ (List.mem_append_left _ (List.mem_of_getElem? (l := wsC_17) (i := 13) rfl))))))))))))))))))
theorem wsCw_439 : (.methodLink RX6 219 yX0_balanceOf : Cond) ∈ wsC := List.mem_append_right _ (List.mem_append_right _ (List.mem_append_right _ (List.mem_append_right _ (List.mem_append_right _ (List.mem_append_right _ (List.mem_append_right _ (List.mem_append_right _ (List.mem_append_right _ (List.mem_append_right _ (List.mem_append_right _ (List.mem_append_right _ (List.mem_append_right _ (List.mem_append_right _ (List.mem_append_right _ (List.mem_append_right _ (List.mem_append_right _ (List.mem_append_left _ (List.mem_of_getElem? (l := wsC_17) (i := 14) rfl))))))))))))))))))
theorem wsCw_440 : (.instanceMethod yX0_balanceOf : Cond) ∈ wsC := List.mem_append_right _ (List.mem_append_right _ (List.mem_append_right _ (List.mem_append_right _ (List.mem_append_right _ (List.mem_append_right _ (List.mem_append_right _ (List.mem_append_right _ (List.mem_append_right _ (List.mem_append_right _ (List.mem_append_right _ (List.mem_append_right _ (List.mem_append_right _ (List.mem_append_right _ (List.mem_append_right _ (List.mem_append_right _ (List.mem_append_right _ (List.mem_append_left _ (List.mem_of_getElem? (l := wsC_17) (i := 15) rfl))))))))))))))))))
theorem wsCw_441 : (.selects RX0 yX0_balanceOf yX0_balanceOf : Cond) ∈ wsC := List.mem_append_right _ (List.mem_append_right _ (List.mem_append_right _ (List.mem_append_right _ (List.mem_append_right _ (List.mem_append_right _ (List.mem_append_right _ (List.mem_append_right _ (List.mem_append_right _ (List.mem_append_right _ (List.mem_append_right _ (List.mem_append_right _ (List.mem_append_right _ (List.mem_append_right _ (List.mem_append_right _ (List.mem_append_right _ (List.mem_append_right _ (List.mem_append_left _ (List.mem_of_getElem? (l := wsC_17) (i := 16) rfl))))))))))))))))))
theorem wsCw_442 : (.code yX0_balanceOf cX0_balanceOf 3 (some .long) : Cond) ∈ wsC := List.mem_append_right _ (List.mem_append_right _ (List.mem_append_right _ (List.mem_append_right _ (List.mem_append_right _ (List.mem_append_right _ (List.mem_append_right _ (List.mem_append_right _ (List.mem_append_right _ (List.mem_append_right _ (List.mem_append_right _ (List.mem_append_right _ (List.mem_append_right _ (List.mem_append_right _ (List.mem_append_right _ (List.mem_append_right _ (List.mem_append_right _ (List.mem_append_left _ (List.mem_of_getElem? (l := wsC_17) (i := 17) rfl))))))))))))))))))
theorem wsCw_443 : (.methodLink RX6 229 yX8_feesOf : Cond) ∈ wsC := List.mem_append_right _ (List.mem_append_right _ (List.mem_append_right _ (List.mem_append_right _ (List.mem_append_right _ (List.mem_append_right _ (List.mem_append_right _ (List.mem_append_right _ (List.mem_append_right _ (List.mem_append_right _ (List.mem_append_right _ (List.mem_append_right _ (List.mem_append_right _ (List.mem_append_right _ (List.mem_append_right _ (List.mem_append_right _ (List.mem_append_right _ (List.mem_append_left _ (List.mem_of_getElem? (l := wsC_17) (i := 18) rfl))))))))))))))))))
theorem wsCw_444 : (.instanceMethod yX8_feesOf : Cond) ∈ wsC := List.mem_append_right _ (List.mem_append_right _ (List.mem_append_right _ (List.mem_append_right _ (List.mem_append_right _ (List.mem_append_right _ (List.mem_append_right _ (List.mem_append_right _ (List.mem_append_right _ (List.mem_append_right _ (List.mem_append_right _ (List.mem_append_right _ (List.mem_append_right _ (List.mem_append_right _ (List.mem_append_right _ (List.mem_append_right _ (List.mem_append_right _ (List.mem_append_left _ (List.mem_of_getElem? (l := wsC_17) (i := 19) rfl))))))))))))))))))
theorem wsCw_445 : (.selects RX8 yX8_feesOf yX8_feesOf : Cond) ∈ wsC := List.mem_append_right _ (List.mem_append_right _ (List.mem_append_right _ (List.mem_append_right _ (List.mem_append_right _ (List.mem_append_right _ (List.mem_append_right _ (List.mem_append_right _ (List.mem_append_right _ (List.mem_append_right _ (List.mem_append_right _ (List.mem_append_right _ (List.mem_append_right _ (List.mem_append_right _ (List.mem_append_right _ (List.mem_append_right _ (List.mem_append_right _ (List.mem_append_left _ (List.mem_of_getElem? (l := wsC_17) (i := 20) rfl))))))))))))))))))
theorem wsCw_446 : (.code yX8_feesOf cX8_feesOf 7 (some .int) : Cond) ∈ wsC := List.mem_append_right _ (List.mem_append_right _ (List.mem_append_right _ (List.mem_append_right _ (List.mem_append_right _ (List.mem_append_right _ (List.mem_append_right _ (List.mem_append_right _ (List.mem_append_right _ (List.mem_append_right _ (List.mem_append_right _ (List.mem_append_right _ (List.mem_append_right _ (List.mem_append_right _ (List.mem_append_right _ (List.mem_append_right _ (List.mem_append_right _ (List.mem_append_left _ (List.mem_of_getElem? (l := wsC_17) (i := 21) rfl))))))))))))))))))
theorem wsCw_447 : (.methodLink RX6 233 yX6_charge : Cond) ∈ wsC := List.mem_append_right _ (List.mem_append_right _ (List.mem_append_right _ (List.mem_append_right _ (List.mem_append_right _ (List.mem_append_right _ (List.mem_append_right _ (List.mem_append_right _ (List.mem_append_right _ (List.mem_append_right _ (List.mem_append_right _ (List.mem_append_right _ (List.mem_append_right _ (List.mem_append_right _ (List.mem_append_right _ (List.mem_append_right _ (List.mem_append_right _ (List.mem_append_left _ (List.mem_of_getElem? (l := wsC_17) (i := 22) rfl))))))))))))))))))
theorem wsCw_448 : (.instanceMethod yX6_charge : Cond) ∈ wsC := List.mem_append_right _ (List.mem_append_right _ (List.mem_append_right _ (List.mem_append_right _ (List.mem_append_right _ (List.mem_append_right _ (List.mem_append_right _ (List.mem_append_right _ (List.mem_append_right _ (List.mem_append_right _ (List.mem_append_right _ (List.mem_append_right _ (List.mem_append_right _ (List.mem_append_right _ (List.mem_append_right _ (List.mem_append_right _ (List.mem_append_right _ (List.mem_append_left _ (List.mem_of_getElem? (l := wsC_17) (i := 23) rfl))))))))))))))))))
theorem wsCw_449 : (.selects RX6 yX6_charge yX6_charge : Cond) ∈ wsC := List.mem_append_right _ (List.mem_append_right _ (List.mem_append_right _ (List.mem_append_right _ (List.mem_append_right _ (List.mem_append_right _ (List.mem_append_right _ (List.mem_append_right _ (List.mem_append_right _ (List.mem_append_right _ (List.mem_append_right _ (List.mem_append_right _ (List.mem_append_right _ (List.mem_append_right _ (List.mem_append_right _ (List.mem_append_right _ (List.mem_append_right _ (List.mem_append_left _ (List.mem_of_getElem? (l := wsC_17) (i := 24) rfl))))))))))))))))))
theorem wsCw_450 : (.code yX6_charge cX6_charge 5 none : Cond) ∈ wsC := List.mem_append_right _ (List.mem_append_right _ (List.mem_append_right _ (List.mem_append_right _ (List.mem_append_right _ (List.mem_append_right _ (List.mem_append_right _ (List.mem_append_right _ (List.mem_append_right _ (List.mem_append_right _ (List.mem_append_right _ (List.mem_append_right _ (List.mem_append_right _ (List.mem_append_right _ (List.mem_append_right _ (List.mem_append_right _ (List.mem_append_right _ (List.mem_append_right _ (List.mem_append_left _ (List.mem_of_getElem? (l := wsC_18) (i := 0) rfl)))))))))))))))))))
theorem wsCw_451 : (.methodLink RX6 198 yX6_settleMost : Cond) ∈ wsC := List.mem_append_right _ (List.mem_append_right _ (List.mem_append_right _ (List.mem_append_right _ (List.mem_append_right _ (List.mem_append_right _ (List.mem_append_right _ (List.mem_append_right _ (List.mem_append_right _ (List.mem_append_right _ (List.mem_append_right _ (List.mem_append_right _ (List.mem_append_right _ (List.mem_append_right _ (List.mem_append_right _ (List.mem_append_right _ (List.mem_append_right _ (List.mem_append_right _ (List.mem_append_left _ (List.mem_of_getElem? (l := wsC_18) (i := 1) rfl)))))))))))))))))))
theorem wsCw_452 : (.instanceMethod yX6_settleMost : Cond) ∈ wsC := List.mem_append_right _ (List.mem_append_right _ (List.mem_append_right _ (List.mem_append_right _ (List.mem_append_right _ (List.mem_append_right _ (List.mem_append_right _ (List.mem_append_right _ (List.mem_append_right _ (List.mem_append_right _ (List.mem_append_right _ (List.mem_append_right _ (List.mem_append_right _ (List.mem_append_right _ (List.mem_append_right _ (List.mem_append_right _ (List.mem_append_right _ (List.mem_append_right _ (List.mem_append_left _ (List.mem_of_getElem? (l := wsC_18) (i := 2) rfl)))))))))))))))))))
theorem wsCw_453 : (.selects RX6 yX6_settleMost yX6_settleMost : Cond) ∈ wsC := List.mem_append_right _ (List.mem_append_right _ (List.mem_append_right _ (List.mem_append_right _ (List.mem_append_right _ (List.mem_append_right _ (List.mem_append_right _ (List.mem_append_right _ (List.mem_append_right _ (List.mem_append_right _ (List.mem_append_right _ (List.mem_append_right _ (List.mem_append_right _ (List.mem_append_right _ (List.mem_append_right _ (List.mem_append_right _ (List.mem_append_right _ (List.mem_append_right _ (List.mem_append_left _ (List.mem_of_getElem? (l := wsC_18) (i := 3) rfl)))))))))))))))))))
theorem wsCw_454 : (.code yX6_settleMost cX6_settleMost 5 (some .int) : Cond) ∈ wsC := List.mem_append_right _ (List.mem_append_right _ (List.mem_append_right _ (List.mem_append_right _ (List.mem_append_right _ (List.mem_append_right _ (List.mem_append_right _ (List.mem_append_right _ (List.mem_append_right _ (List.mem_append_right _ (List.mem_append_right _ (List.mem_append_right _ (List.mem_append_right _ (List.mem_append_right _ (List.mem_append_right _ (List.mem_append_right _ (List.mem_append_right _ (List.mem_append_right _ (List.mem_append_left _ (List.mem_of_getElem? (l := wsC_18) (i := 4) rfl)))))))))))))))))))
theorem wsCw_455 : (.methodLink RX6 201 yX6_giveBackWhatMayNotStay : Cond) ∈ wsC := List.mem_append_right _ (List.mem_append_right _ (List.mem_append_right _ (List.mem_append_right _ (List.mem_append_right _ (List.mem_append_right _ (List.mem_append_right _ (List.mem_append_right _ (List.mem_append_right _ (List.mem_append_right _ (List.mem_append_right _ (List.mem_append_right _ (List.mem_append_right _ (List.mem_append_right _ (List.mem_append_right _ (List.mem_append_right _ (List.mem_append_right _ (List.mem_append_right _ (List.mem_append_left _ (List.mem_of_getElem? (l := wsC_18) (i := 5) rfl)))))))))))))))))))
theorem wsCw_456 : (.instanceMethod yX6_giveBackWhatMayNotStay : Cond) ∈ wsC := List.mem_append_right _ (List.mem_append_right _ (List.mem_append_right _ (List.mem_append_right _ (List.mem_append_right _ (List.mem_append_right _ (List.mem_append_right _ (List.mem_append_right _ (List.mem_append_right _ (List.mem_append_right _ (List.mem_append_right _ (List.mem_append_right _ (List.mem_append_right _ (List.mem_append_right _ (List.mem_append_right _ (List.mem_append_right _ (List.mem_append_right _ (List.mem_append_right _ (List.mem_append_left _ (List.mem_of_getElem? (l := wsC_18) (i := 6) rfl)))))))))))))))))))
theorem wsCw_457 : (.selects RX6 yX6_giveBackWhatMayNotStay yX6_giveBackWhatMayNotStay : Cond) ∈ wsC := List.mem_append_right _ (List.mem_append_right _ (List.mem_append_right _ (List.mem_append_right _ (List.mem_append_right _ (List.mem_append_right _ (List.mem_append_right _ (List.mem_append_right _ (List.mem_append_right _ (List.mem_append_right _ (List.mem_append_right _ (List.mem_append_right _ (List.mem_append_right _ (List.mem_append_right _ (List.mem_append_right _ (List.mem_append_right _ (List.mem_append_right _ (List.mem_append_right _ (List.mem_append_left _ (List.mem_of_getElem? (l := wsC_18) (i := 7) rfl)))))))))))))))))))
theorem wsCw_458 : (.code yX6_giveBackWhatMayNotStay cX6_giveBackWhatMayNotStay 3 none : Cond) ∈ wsC := List.mem_append_right _ (List.mem_append_right _ (List.mem_append_right _ (List.mem_append_right _ (List.mem_append_right _ (List.mem_append_right _ (List.mem_append_right _ (List.mem_append_right _ (List.mem_append_right _ (List.mem_append_right _ (List.mem_append_right _ (List.mem_append_right _ (List.mem_append_right _ (List.mem_append_right _ (List.mem_append_right _ (List.mem_append_right _ (List.mem_append_right _ (List.mem_append_right _ (List.mem_append_left _ (List.mem_of_getElem? (l := wsC_18) (i := 8) rfl)))))))))))))))))))
theorem wsCw_459 : (.methodLink RX6 204 yX6_chargeBanks : Cond) ∈ wsC := List.mem_append_right _ (List.mem_append_right _ (List.mem_append_right _ (List.mem_append_right _ (List.mem_append_right _ (List.mem_append_right _ (List.mem_append_right _ (List.mem_append_right _ (List.mem_append_right _ (List.mem_append_right _ (List.mem_append_right _ (List.mem_append_right _ (List.mem_append_right _ (List.mem_append_right _ (List.mem_append_right _ (List.mem_append_right _ (List.mem_append_right _ (List.mem_append_right _ (List.mem_append_left _ (List.mem_of_getElem? (l := wsC_18) (i := 9) rfl)))))))))))))))))))
theorem wsCw_460 : (.instanceMethod yX6_chargeBanks : Cond) ∈ wsC := List.mem_append_right _ (List.mem_append_right _ (List.mem_append_right _ (List.mem_append_right _ (List.mem_append_right _ (List.mem_append_right _ (List.mem_append_right _ (List.mem_append_right _ (List.mem_append_right _ (List.mem_append_right _ (List.mem_append_right _ (List.mem_append_right _ (List.mem_append_right _ (List.mem_append_right _ (List.mem_append_right _ (List.mem_append_right _ (List.mem_append_right _ (List.mem_append_right _ (List.mem_append_left _ (List.mem_of_getElem? (l := wsC_18) (i := 10) rfl)))))))))))))))))))
theorem wsCw_461 : (.selects RX6 yX6_chargeBanks yX6_chargeBanks : Cond) ∈ wsC := List.mem_append_right _ (List.mem_append_right _ (List.mem_append_right _ (List.mem_append_right _ (List.mem_append_right _ (List.mem_append_right _ (List.mem_append_right _ (List.mem_append_right _ (List.mem_append_right _ (List.mem_append_right _ (List.mem_append_right _ (List.mem_append_right _ (List.mem_append_right _ (List.mem_append_right _ (List.mem_append_right _ (List.mem_append_right _ (List.mem_append_right _ (List.mem_append_right _ (List.mem_append_left _ (List.mem_of_getElem? (l := wsC_18) (i := 11) rfl)))))))))))))))))))
theorem wsCw_462 : (.code yX6_chargeBanks cX6_chargeBanks 5 none : Cond) ∈ wsC := List.mem_append_right _ (List.mem_append_right _ (List.mem_append_right _ (List.mem_append_right _ (List.mem_append_right _ (List.mem_append_right _ (List.mem_append_right _ (List.mem_append_right _ (List.mem_append_right _ (List.mem_append_right _ (List.mem_append_right _ (List.mem_append_right _ (List.mem_append_right _ (List.mem_append_right _ (List.mem_append_right _ (List.mem_append_right _ (List.mem_append_right _ (List.mem_append_right _ (List.mem_append_left _ (List.mem_of_getElem? (l := wsC_18) (i := 12) rfl)))))))))))))))))))
theorem wsCw_463 : (.methodLink RX6 207 yX0_beginDay : Cond) ∈ wsC := List.mem_append_right _ (List.mem_append_right _ (List.mem_append_right _ (List.mem_append_right _ (List.mem_append_right _ (List.mem_append_right _ (List.mem_append_right _ (List.mem_append_right _ (List.mem_append_right _ (List.mem_append_right _ (List.mem_append_right _ (List.mem_append_right _ (List.mem_append_right _ (List.mem_append_right _ (List.mem_append_right _ (List.mem_append_right _ (List.mem_append_right _ (List.mem_append_right _ (List.mem_append_left _ (List.mem_of_getElem? (l := wsC_18) (i := 13) rfl)))))))))))))))))))
theorem wsCw_464 : (.instanceMethod yX0_beginDay : Cond) ∈ wsC := List.mem_append_right _ (List.mem_append_right _ (List.mem_append_right _ (List.mem_append_right _ (List.mem_append_right _ (List.mem_append_right _ (List.mem_append_right _ (List.mem_append_right _ (List.mem_append_right _ (List.mem_append_right _ (List.mem_append_right _ (List.mem_append_right _ (List.mem_append_right _ (List.mem_append_right _ (List.mem_append_right _ (List.mem_append_right _ (List.mem_append_right _ (List.mem_append_right _ (List.mem_append_left _ (List.mem_of_getElem? (l := wsC_18) (i := 14) rfl)))))))))))))))))))
theorem wsCw_465 : (.selects RX0 yX0_beginDay yX0_beginDay : Cond) ∈ wsC := List.mem_append_right _ (List.mem_append_right _ (List.mem_append_right _ (List.mem_append_right _ (List.mem_append_right _ (List.mem_append_right _ (List.mem_append_right _ (List.mem_append_right _ (List.mem_append_right _ (List.mem_append_right _ (List.mem_append_right _ (List.mem_append_right _ (List.mem_append_right _ (List.mem_append_right _ (List.mem_append_right _ (List.mem_append_right _ (List.mem_append_right _ (List.mem_append_right _ (List.mem_append_left _ (List.mem_of_getElem? (l := wsC_18) (i := 15) rfl)))))))))))))))))))
theorem wsCw_466 : (.code yX0_beginDay cX0_beginDay 1 none : Cond) ∈ wsC := List.mem_append_right _ (List.mem_append_right _ (List.mem_append_right _ (List.mem_append_right _ (List.mem_append_right _ (List.mem_append_right _ (List.mem_append_right _ (List.mem_append_right _ (List.mem_append_right _ (List.mem_append_right _ (List.mem_append_right _ (List.mem_append_right _ (List.mem_append_right _ (List.mem_append_right _ (List.mem_append_right _ (List.mem_append_right _ (List.mem_append_right _ (List.mem_append_right _ (List.mem_append_left _ (List.mem_of_getElem? (l := wsC_18) (i := 16) rfl)))))))))))))))))))
theorem wsCw_467 : (.methodLink RX6 210 yX6_letWaitingEnter : Cond) ∈ wsC := List.mem_append_right _ (List.mem_append_right _ (List.mem_append_right _ (List.mem_append_right _ (List.mem_append_right _ (List.mem_append_right _ (List.mem_append_right _ (List.mem_append_right _ (List.mem_append_right _ (List.mem_append_right _ (List.mem_append_right _ (List.mem_append_right _ (List.mem_append_right _ (List.mem_append_right _ (List.mem_append_right _ (List.mem_append_right _ (List.mem_append_right _ (List.mem_append_right _ (List.mem_append_left _ (List.mem_of_getElem? (l := wsC_18) (i := 17) rfl)))))))))))))))))))
theorem wsCw_468 : (.instanceMethod yX6_letWaitingEnter : Cond) ∈ wsC := List.mem_append_right _ (List.mem_append_right _ (List.mem_append_right _ (List.mem_append_right _ (List.mem_append_right _ (List.mem_append_right _ (List.mem_append_right _ (List.mem_append_right _ (List.mem_append_right _ (List.mem_append_right _ (List.mem_append_right _ (List.mem_append_right _ (List.mem_append_right _ (List.mem_append_right _ (List.mem_append_right _ (List.mem_append_right _ (List.mem_append_right _ (List.mem_append_right _ (List.mem_append_left _ (List.mem_of_getElem? (l := wsC_18) (i := 18) rfl)))))))))))))))))))
theorem wsCw_469 : (.selects RX6 yX6_letWaitingEnter yX6_letWaitingEnter : Cond) ∈ wsC := List.mem_append_right _ (List.mem_append_right _ (List.mem_append_right _ (List.mem_append_right _ (List.mem_append_right _ (List.mem_append_right _ (List.mem_append_right _ (List.mem_append_right _ (List.mem_append_right _ (List.mem_append_right _ (List.mem_append_right _ (List.mem_append_right _ (List.mem_append_right _ (List.mem_append_right _ (List.mem_append_right _ (List.mem_append_right _ (List.mem_append_right _ (List.mem_append_right _ (List.mem_append_left _ (List.mem_of_getElem? (l := wsC_18) (i := 19) rfl)))))))))))))))))))
theorem wsCw_470 : (.code yX6_letWaitingEnter cX6_letWaitingEnter 3 none : Cond) ∈ wsC := List.mem_append_right _ (List.mem_append_right _ (List.mem_append_right _ (List.mem_append_right _ (List.mem_append_right _ (List.mem_append_right _ (List.mem_append_right _ (List.mem_append_right _ (List.mem_append_right _ (List.mem_append_right _ (List.mem_append_right _ (List.mem_append_right _ (List.mem_append_right _ (List.mem_append_right _ (List.mem_append_right _ (List.mem_append_right _ (List.mem_append_right _ (List.mem_append_right _ (List.mem_append_left _ (List.mem_of_getElem? (l := wsC_18) (i := 20) rfl)))))))))))))))))))
theorem wsCw_471 : (.fieldLink RX7 47 "MillstreamPayments$Terms" "isReal" "Z" : Cond) ∈ wsC := List.mem_append_right _ (List.mem_append_right _ (List.mem_append_right _ (List.mem_append_right _ (List.mem_append_right _ (List.mem_append_right _ (List.mem_append_right _ (List.mem_append_right _ (List.mem_append_right _ (List.mem_append_right _ (List.mem_append_right _ (List.mem_append_right _ (List.mem_append_right _ (List.mem_append_right _ (List.mem_append_right _ (List.mem_append_right _ (List.mem_append_right _ (List.mem_append_right _ (List.mem_append_left _ (List.mem_of_getElem? (l := wsC_18) (i := 21) rfl)))))))))))))))))))
theorem wsCw_472 : (.methodLink RX7 51 yX10_isWayBackOf : Cond) ∈ wsC := List.mem_append_right _ (List.mem_append_right _ (List.mem_append_right _ (List.mem_append_right _ (List.mem_append_right _ (List.mem_append_right _ (List.mem_append_right _ (List.mem_append_right _ (List.mem_append_right _ (List.mem_append_right _ (List.mem_append_right _ (List.mem_append_right _ (List.mem_append_right _ (List.mem_append_right _ (List.mem_append_right _ (List.mem_append_right _ (List.mem_append_right _ (List.mem_append_right _ (List.mem_append_left _ (List.mem_of_getElem? (l := wsC_18) (i := 22) rfl)))))))))))))))))))
theorem wsCw_473 : (.instanceMethod yX10_isWayBackOf : Cond) ∈ wsC := List.mem_append_right _ (List.mem_append_right _ (List.mem_append_right _ (List.mem_append_right _ (List.mem_append_right _ (List.mem_append_right _ (List.mem_append_right _ (List.mem_append_right _ (List.mem_append_right _ (List.mem_append_right _ (List.mem_append_right _ (List.mem_append_right _ (List.mem_append_right _ (List.mem_append_right _ (List.mem_append_right _ (List.mem_append_right _ (List.mem_append_right _ (List.mem_append_right _ (List.mem_append_left _ (List.mem_of_getElem? (l := wsC_18) (i := 23) rfl)))))))))))))))))))
theorem wsCw_474 : (.selects RX10 yX10_isWayBackOf yX10_isWayBackOf : Cond) ∈ wsC := List.mem_append_right _ (List.mem_append_right _ (List.mem_append_right _ (List.mem_append_right _ (List.mem_append_right _ (List.mem_append_right _ (List.mem_append_right _ (List.mem_append_right _ (List.mem_append_right _ (List.mem_append_right _ (List.mem_append_right _ (List.mem_append_right _ (List.mem_append_right _ (List.mem_append_right _ (List.mem_append_right _ (List.mem_append_right _ (List.mem_append_right _ (List.mem_append_right _ (List.mem_append_left _ (List.mem_of_getElem? (l := wsC_18) (i := 24) rfl)))))))))))))))))))
theorem wsCw_475 : (.code yX10_isWayBackOf cX10_isWayBackOf 2 (some .boolean) : Cond) ∈ wsC := List.mem_append_right _ (List.mem_append_right _ (List.mem_append_right _ (List.mem_append_right _ (List.mem_append_right _ (List.mem_append_right _ (List.mem_append_right _ (List.mem_append_right _ (List.mem_append_right _ (List.mem_append_right _ (List.mem_append_right _ (List.mem_append_right _ (List.mem_append_right _ (List.mem_append_right _ (List.mem_append_right _ (List.mem_append_right _ (List.mem_append_right _ (List.mem_append_right _ (List.mem_append_right _ (List.mem_append_left _ (List.mem_of_getElem? (l := wsC_19) (i := 0) rfl))))))))))))))))))))
theorem wsCw_476 : (.methodLink RX8 50 yX9_at : Cond) ∈ wsC := List.mem_append_right _ (List.mem_append_right _ (List.mem_append_right _ (List.mem_append_right _ (List.mem_append_right _ (List.mem_append_right _ (List.mem_append_right _ (List.mem_append_right _ (List.mem_append_right _ (List.mem_append_right _ (List.mem_append_right _ (List.mem_append_right _ (List.mem_append_right _ (List.mem_append_right _ (List.mem_append_right _ (List.mem_append_right _ (List.mem_append_right _ (List.mem_append_right _ (List.mem_append_right _ (List.mem_append_left _ (List.mem_of_getElem? (l := wsC_19) (i := 1) rfl))))))))))))))))))))
theorem wsCw_477 : (.methodLink RX8 54 yX8_find : Cond) ∈ wsC := List.mem_append_right _ (List.mem_append_right _ (List.mem_append_right _ (List.mem_append_right _ (List.mem_append_right _ (List.mem_append_right _ (List.mem_append_right _ (List.mem_append_right _ (List.mem_append_right _ (List.mem_append_right _ (List.mem_append_right _ (List.mem_append_right _ (List.mem_append_right _ (List.mem_append_right _ (List.mem_append_right _ (List.mem_append_right _ (List.mem_append_right _ (List.mem_append_right _ (List.mem_append_right _ (List.mem_append_left _ (List.mem_of_getElem? (l := wsC_19) (i := 2) rfl))))))))))))))))))))
theorem wsCw_478 : (.methodLink RX8 58 yX9_put : Cond) ∈ wsC := List.mem_append_right _ (List.mem_append_right _ (List.mem_append_right _ (List.mem_append_right _ (List.mem_append_right _ (List.mem_append_right _ (List.mem_append_right _ (List.mem_append_right _ (List.mem_append_right _ (List.mem_append_right _ (List.mem_append_right _ (List.mem_append_right _ (List.mem_append_right _ (List.mem_append_right _ (List.mem_append_right _ (List.mem_append_right _ (List.mem_append_right _ (List.mem_append_right _ (List.mem_append_right _ (List.mem_append_left _ (List.mem_of_getElem? (l := wsC_19) (i := 3) rfl))))))))))))))))))))
theorem wsCw_479 : (.methodLink RX8 84 Lib.Math.min.name : Cond) ∈ wsC := List.mem_append_right _ (List.mem_append_right _ (List.mem_append_right _ (List.mem_append_right _ (List.mem_append_right _ (List.mem_append_right _ (List.mem_append_right _ (List.mem_append_right _ (List.mem_append_right _ (List.mem_append_right _ (List.mem_append_right _ (List.mem_append_right _ (List.mem_append_right _ (List.mem_append_right _ (List.mem_append_right _ (List.mem_append_right _ (List.mem_append_right _ (List.mem_append_right _ (List.mem_append_right _ (List.mem_append_left _ (List.mem_of_getElem? (l := wsC_19) (i := 4) rfl))))))))))))))))))))
theorem wsCw_480 : (.fieldLink RX8 90 "MillstreamPayments$Payment" "number" "I" : Cond) ∈ wsC := List.mem_append_right _ (List.mem_append_right _ (List.mem_append_right _ (List.mem_append_right _ (List.mem_append_right _ (List.mem_append_right _ (List.mem_append_right _ (List.mem_append_right _ (List.mem_append_right _ (List.mem_append_right _ (List.mem_append_right _ (List.mem_append_right _ (List.mem_append_right _ (List.mem_append_right _ (List.mem_append_right _ (List.mem_append_right _ (List.mem_append_right _ (List.mem_append_right _ (List.mem_append_right _ (List.mem_append_left _ (List.mem_of_getElem? (l := wsC_19) (i := 5) rfl))))))))))))))))))))
theorem wsCw_481 : (.methodLink RX8 80 yX8_nextQueued : Cond) ∈ wsC := List.mem_append_right _ (List.mem_append_right _ (List.mem_append_right _ (List.mem_append_right _ (List.mem_append_right _ (List.mem_append_right _ (List.mem_append_right _ (List.mem_append_right _ (List.mem_append_right _ (List.mem_append_right _ (List.mem_append_right _ (List.mem_append_right _ (List.mem_append_right _ (List.mem_append_right _ (List.mem_append_right _ (List.mem_append_right _ (List.mem_append_right _ (List.mem_append_right _ (List.mem_append_right _ (List.mem_append_left _ (List.mem_of_getElem? (l := wsC_19) (i := 6) rfl))))))))))))))))))))
theorem wsCw_482 : (.methodLink RX11 1 objectInit : Cond) ∈ wsC := List.mem_append_right _ (List.mem_append_right _ (List.mem_append_right _ (List.mem_append_right _ (List.mem_append_right _ (List.mem_append_right _ (List.mem_append_right _ (List.mem_append_right _ (List.mem_append_right _ (List.mem_append_right _ (List.mem_append_right _ (List.mem_append_right _ (List.mem_append_right _ (List.mem_append_right _ (List.mem_append_right _ (List.mem_append_right _ (List.mem_append_right _ (List.mem_append_right _ (List.mem_append_right _ (List.mem_append_left _ (List.mem_of_getElem? (l := wsC_19) (i := 7) rfl))))))))))))))))))))
theorem wsCw_483 : (.classLink RX11 7 RX6 : Cond) ∈ wsC := List.mem_append_right _ (List.mem_append_right _ (List.mem_append_right _ (List.mem_append_right _ (List.mem_append_right _ (List.mem_append_right _ (List.mem_append_right _ (List.mem_append_right _ (List.mem_append_right _ (List.mem_append_right _ (List.mem_append_right _ (List.mem_append_right _ (List.mem_append_right _ (List.mem_append_right _ (List.mem_append_right _ (List.mem_append_right _ (List.mem_append_right _ (List.mem_append_right _ (List.mem_append_right _ (List.mem_append_left _ (List.mem_of_getElem? (l := wsC_19) (i := 8) rfl))))))))))))))))))))
theorem wsCw_484 : (.instantiable RX6 8 : Cond) ∈ wsC := List.mem_append_right _ (List.mem_append_right _ (List.mem_append_right _ (List.mem_append_right _ (List.mem_append_right _ (List.mem_append_right _ (List.mem_append_right _ (List.mem_append_right _ (List.mem_append_right _ (List.mem_append_right _ (List.mem_append_right _ (List.mem_append_right _ (List.mem_append_right _ (List.mem_append_right _ (List.mem_append_right _ (List.mem_append_right _ (List.mem_append_right _ (List.mem_append_right _ (List.mem_append_right _ (List.mem_append_left _ (List.mem_of_getElem? (l := wsC_19) (i := 9) rfl))))))))))))))))))))
theorem wsCw_485 : (.fieldLink RX11 10 "MillstreamPayments" "exchange" "LMillstreamPayments$Exchange;" : Cond) ∈ wsC := List.mem_append_right _ (List.mem_append_right _ (List.mem_append_right _ (List.mem_append_right _ (List.mem_append_right _ (List.mem_append_right _ (List.mem_append_right _ (List.mem_append_right _ (List.mem_append_right _ (List.mem_append_right _ (List.mem_append_right _ (List.mem_append_right _ (List.mem_append_right _ (List.mem_append_right _ (List.mem_append_right _ (List.mem_append_right _ (List.mem_append_right _ (List.mem_append_right _ (List.mem_append_right _ (List.mem_append_left _ (List.mem_of_getElem? (l := wsC_19) (i := 10) rfl))))))))))))))))))))
theorem wsCw_486 : (.instanceMethod yX6_init : Cond) ∈ wsC := List.mem_append_right _ (List.mem_append_right _ (List.mem_append_right _ (List.mem_append_right _ (List.mem_append_right _ (List.mem_append_right _ (List.mem_append_right _ (List.mem_append_right _ (List.mem_append_right _ (List.mem_append_right _ (List.mem_append_right _ (List.mem_append_right _ (List.mem_append_right _ (List.mem_append_right _ (List.mem_append_right _ (List.mem_append_right _ (List.mem_append_right _ (List.mem_append_right _ (List.mem_append_right _ (List.mem_append_left _ (List.mem_of_getElem? (l := wsC_19) (i := 11) rfl))))))))))))))))))))
theorem wsCw_487 : (.code yX6_init cX6_init 1 none : Cond) ∈ wsC := List.mem_append_right _ (List.mem_append_right _ (List.mem_append_right _ (List.mem_append_right _ (List.mem_append_right _ (List.mem_append_right _ (List.mem_append_right _ (List.mem_append_right _ (List.mem_append_right _ (List.mem_append_right _ (List.mem_append_right _ (List.mem_append_right _ (List.mem_append_right _ (List.mem_append_right _ (List.mem_append_right _ (List.mem_append_right _ (List.mem_append_right _ (List.mem_append_right _ (List.mem_append_right _ (List.mem_append_left _ (List.mem_of_getElem? (l := wsC_19) (i := 12) rfl))))))))))))))))))))
theorem wsCw_488 : (.classLink RX11 213 "java/lang/IndexOutOfBoundsException" : Cond) ∈ wsC := List.mem_append_right _ (List.mem_append_right _ (List.mem_append_right _ (List.mem_append_right _ (List.mem_append_right _ (List.mem_append_right _ (List.mem_append_right _ (List.mem_append_right _ (List.mem_append_right _ (List.mem_append_right _ (List.mem_append_right _ (List.mem_append_right _ (List.mem_append_right _ (List.mem_append_right _ (List.mem_append_right _ (List.mem_append_right _ (List.mem_append_right _ (List.mem_append_right _ (List.mem_append_right _ (List.mem_append_left _ (List.mem_of_getElem? (l := wsC_19) (i := 13) rfl))))))))))))))))))))
theorem wsCw_489 : (.initialized "java/lang/IndexOutOfBoundsException" : Cond) ∈ wsC := List.mem_append_right _ (List.mem_append_right _ (List.mem_append_right _ (List.mem_append_right _ (List.mem_append_right _ (List.mem_append_right _ (List.mem_append_right _ (List.mem_append_right _ (List.mem_append_right _ (List.mem_append_right _ (List.mem_append_right _ (List.mem_append_right _ (List.mem_append_right _ (List.mem_append_right _ (List.mem_append_right _ (List.mem_append_right _ (List.mem_append_right _ (List.mem_append_right _ (List.mem_append_right _ (List.mem_append_left _ (List.mem_of_getElem? (l := wsC_19) (i := 14) rfl))))))))))))))))))))
theorem wsCw_490 : (.classLink RX11 252 "java/lang/IllegalArgumentException" : Cond) ∈ wsC := List.mem_append_right _ (List.mem_append_right _ (List.mem_append_right _ (List.mem_append_right _ (List.mem_append_right _ (List.mem_append_right _ (List.mem_append_right _ (List.mem_append_right _ (List.mem_append_right _ (List.mem_append_right _ (List.mem_append_right _ (List.mem_append_right _ (List.mem_append_right _ (List.mem_append_right _ (List.mem_append_right _ (List.mem_append_right _ (List.mem_append_right _ (List.mem_append_right _ (List.mem_append_right _ (List.mem_append_left _ (List.mem_of_getElem? (l := wsC_19) (i := 15) rfl))))))))))))))))))))
theorem wsCw_491 : (.initialized "java/lang/IllegalArgumentException" : Cond) ∈ wsC := List.mem_append_right _ (List.mem_append_right _ (List.mem_append_right _ (List.mem_append_right _ (List.mem_append_right _ (List.mem_append_right _ (List.mem_append_right _ (List.mem_append_right _ (List.mem_append_right _ (List.mem_append_right _ (List.mem_append_right _ (List.mem_append_right _ (List.mem_append_right _ (List.mem_append_right _ (List.mem_append_right _ (List.mem_append_right _ (List.mem_append_right _ (List.mem_append_right _ (List.mem_append_right _ (List.mem_append_left _ (List.mem_of_getElem? (l := wsC_19) (i := 16) rfl))))))))))))))))))))
theorem wsCw_492 : (.constant RX11 20 (1000000) : Cond) ∈ wsC := List.mem_append_right _ (List.mem_append_right _ (List.mem_append_right _ (List.mem_append_right _ (List.mem_append_right _ (List.mem_append_right _ (List.mem_append_right _ (List.mem_append_right _ (List.mem_append_right _ (List.mem_append_right _ (List.mem_append_right _ (List.mem_append_right _ (List.mem_append_right _ (List.mem_append_right _ (List.mem_append_right _ (List.mem_append_right _ (List.mem_append_right _ (List.mem_append_right _ (List.mem_append_right _ (List.mem_append_left _ (List.mem_of_getElem? (l := wsC_19) (i := 17) rfl))))))))))))))))))))
theorem wsCw_493 : (.fieldLink RX11 25 "MillstreamPayments$Exchange" "accounts" "LMillstreamPayments$Accounts;" : Cond) ∈ wsC := List.mem_append_right _ (List.mem_append_right _ (List.mem_append_right _ (List.mem_append_right _ (List.mem_append_right _ (List.mem_append_right _ (List.mem_append_right _ (List.mem_append_right _ (List.mem_append_right _ (List.mem_append_right _ (List.mem_append_right _ (List.mem_append_right _ (List.mem_append_right _ (List.mem_append_right _ (List.mem_append_right _ (List.mem_append_right _ (List.mem_append_right _ (List.mem_append_right _ (List.mem_append_right _ (List.mem_append_left _ (List.mem_of_getElem? (l := wsC_19) (i := 18) rfl))))))))))))))))))))
theorem wsCw_494 : (.methodLink RX11 16 yX11_needPlace : Cond) ∈ wsC := List.mem_append_right _ (List.mem_append_right _ (List.mem_append_right _ (List.mem_append_right _ (List.mem_append_right _ (List.mem_append_right _ (List.mem_append_right _ (List.mem_append_right _ (List.mem_append_right _ (List.mem_append_right _ (List.mem_append_right _ (List.mem_append_right _ (List.mem_append_right _ (List.mem_append_right _ (List.mem_append_right _ (List.mem_append_right _ (List.mem_append_right _ (List.mem_append_right _ (List.mem_append_right _ (List.mem_append_left _ (List.mem_of_getElem? (l := wsC_19) (i := 19) rfl))))))))))))))))))))
theorem wsCw_495 : (.static yX11_needPlace : Cond) ∈ wsC := List.mem_append_right _ (List.mem_append_right _ (List.mem_append_right _ (List.mem_append_right _ (List.mem_append_right _ (List.mem_append_right _ (List.mem_append_right _ (List.mem_append_right _ (List.mem_append_right _ (List.mem_append_right _ (List.mem_append_right _ (List.mem_append_right _ (List.mem_append_right _ (List.mem_append_right _ (List.mem_append_right _ (List.mem_append_right _ (List.mem_append_right _ (List.mem_append_right _ (List.mem_append_right _ (List.mem_append_left _ (List.mem_of_getElem? (l := wsC_19) (i := 20) rfl))))))))))))))))))))
theorem wsCw_496 : (.code yX11_needPlace cX11_needPlace 2 none : Cond) ∈ wsC := List.mem_append_right _ (List.mem_append_right _ (List.mem_append_right _ (List.mem_append_right _ (List.mem_append_right _ (List.mem_append_right _ (List.mem_append_right _ (List.mem_append_right _ (List.mem_append_right _ (List.mem_append_right _ (List.mem_append_right _ (List.mem_append_right _ (List.mem_append_right _ (List.mem_append_right _ (List.mem_append_right _ (List.mem_append_right _ (List.mem_append_right _ (List.mem_append_right _ (List.mem_append_right _ (List.mem_append_left _ (List.mem_of_getElem? (l := wsC_19) (i := 21) rfl))))))))))))))))))))
theorem wsCw_497 : (.methodLink RX11 21 yX11_needRange : Cond) ∈ wsC := List.mem_append_right _ (List.mem_append_right _ (List.mem_append_right _ (List.mem_append_right _ (List.mem_append_right _ (List.mem_append_right _ (List.mem_append_right _ (List.mem_append_right _ (List.mem_append_right _ (List.mem_append_right _ (List.mem_append_right _ (List.mem_append_right _ (List.mem_append_right _ (List.mem_append_right _ (List.mem_append_right _ (List.mem_append_right _ (List.mem_append_right _ (List.mem_append_right _ (List.mem_append_right _ (List.mem_append_left _ (List.mem_of_getElem? (l := wsC_19) (i := 22) rfl))))))))))))))))))))
theorem wsCw_498 : (.static yX11_needRange : Cond) ∈ wsC := List.mem_append_right _ (List.mem_append_right _ (List.mem_append_right _ (List.mem_append_right _ (List.mem_append_right _ (List.mem_append_right _ (List.mem_append_right _ (List.mem_append_right _ (List.mem_append_right _ (List.mem_append_right _ (List.mem_append_right _ (List.mem_append_right _ (List.mem_append_right _ (List.mem_append_right _ (List.mem_append_right _ (List.mem_append_right _ (List.mem_append_right _ (List.mem_append_right _ (List.mem_append_right _ (List.mem_append_left _ (List.mem_of_getElem? (l := wsC_19) (i := 23) rfl))))))))))))))))))))
theorem wsCw_499 : (.code yX11_needRange cX11_needRange 3 none : Cond) ∈ wsC := List.mem_append_right _ (List.mem_append_right _ (List.mem_append_right _ (List.mem_append_right _ (List.mem_append_right _ (List.mem_append_right _ (List.mem_append_right _ (List.mem_append_right _ (List.mem_append_right _ (List.mem_append_right _ (List.mem_append_right _ (List.mem_append_right _ (List.mem_append_right _ (List.mem_append_right _ (List.mem_append_right _ (List.mem_append_right _ (List.mem_append_right _ (List.mem_append_right _ (List.mem_append_right _ (List.mem_append_left _ (List.mem_of_getElem? (l := wsC_19) (i := 24) rfl))))))))))))))))))))
theorem wsCw_500 : (.methodLink RX11 29 yX0_move : Cond) ∈ wsC := List.mem_append_right _ (List.mem_append_right _ (List.mem_append_right _ (List.mem_append_right _ (List.mem_append_right _ (List.mem_append_right _ (List.mem_append_right _ (List.mem_append_right _ (List.mem_append_right _ (List.mem_append_right _ (List.mem_append_right _ (List.mem_append_right _ (List.mem_append_right _ (List.mem_append_right _ (List.mem_append_right _ (List.mem_append_right _ (List.mem_append_right _ (List.mem_append_right _ (List.mem_append_right _ (List.mem_append_right _ (List.mem_append_left _ (List.mem_of_getElem? (l := wsC_20) (i := 0) rfl)))))))))))))))))))))
theorem wsCw_501 : (.methodLink RX11 35 yX6_runQueues : Cond) ∈ wsC := List.mem_append_right _ (List.mem_append_right _ (List.mem_append_right _ (List.mem_append_right _ (List.mem_append_right _ (List.mem_append_right _ (List.mem_append_right _ (List.mem_append_right _ (List.mem_append_right _ (List.mem_append_right _ (List.mem_append_right _ (List.mem_append_right _ (List.mem_append_right _ (List.mem_append_right _ (List.mem_append_right _ (List.mem_append_right _ (List.mem_append_right _ (List.mem_append_right _ (List.mem_append_right _ (List.mem_append_right _ (List.mem_append_left _ (List.mem_of_getElem? (l := wsC_20) (i := 1) rfl)))))))))))))))))))))
theorem wsCw_502 : (.instanceMethod yX6_runQueues : Cond) ∈ wsC := List.mem_append_right _ (List.mem_append_right _ (List.mem_append_right _ (List.mem_append_right _ (List.mem_append_right _ (List.mem_append_right _ (List.mem_append_right _ (List.mem_append_right _ (List.mem_append_right _ (List.mem_append_right _ (List.mem_append_right _ (List.mem_append_right _ (List.mem_append_right _ (List.mem_append_right _ (List.mem_append_right _ (List.mem_append_right _ (List.mem_append_right _ (List.mem_append_right _ (List.mem_append_right _ (List.mem_append_right _ (List.mem_append_left _ (List.mem_of_getElem? (l := wsC_20) (i := 2) rfl)))))))))))))))))))))
theorem wsCw_503 : (.selects RX6 yX6_runQueues yX6_runQueues : Cond) ∈ wsC := List.mem_append_right _ (List.mem_append_right _ (List.mem_append_right _ (List.mem_append_right _ (List.mem_append_right _ (List.mem_append_right _ (List.mem_append_right _ (List.mem_append_right _ (List.mem_append_right _ (List.mem_append_right _ (List.mem_append_right _ (List.mem_append_right _ (List.mem_append_right _ (List.mem_append_right _ (List.mem_append_right _ (List.mem_append_right _ (List.mem_append_right _ (List.mem_append_right _ (List.mem_append_right _ (List.mem_append_right _ (List.mem_append_left _ (List.mem_of_getElem? (l := wsC_20) (i := 3) rfl)))))))))))))))))))))
theorem wsCw_504 : (.code yX6_runQueues cX6_runQueues 6 (some .int) : Cond) ∈ wsC := List.mem_append_right _ (List.mem_append_right _ (List.mem_append_right _ (List.mem_append_right _ (List.mem_append_right _ (List.mem_append_right _ (List.mem_append_right _ (List.mem_append_right _ (List.mem_append_right _ (List.mem_append_right _ (List.mem_append_right _ (List.mem_append_right _ (List.mem_append_right _ (List.mem_append_right _ (List.mem_append_right _ (List.mem_append_right _ (List.mem_append_right _ (List.mem_append_right _ (List.mem_append_right _ (List.mem_append_right _ (List.mem_append_left _ (List.mem_of_getElem? (l := wsC_20) (i := 4) rfl)))))))))))))))))))))
theorem wsCw_505 : (.methodLink RX11 39 yX0_balanceOf : Cond) ∈ wsC := List.mem_append_right _ (List.mem_append_right _ (List.mem_append_right _ (List.mem_append_right _ (List.mem_append_right _ (List.mem_append_right _ (List.mem_append_right _ (List.mem_append_right _ (List.mem_append_right _ (List.mem_append_right _ (List.mem_append_right _ (List.mem_append_right _ (List.mem_append_right _ (List.mem_append_right _ (List.mem_append_right _ (List.mem_append_right _ (List.mem_append_right _ (List.mem_append_right _ (List.mem_append_right _ (List.mem_append_right _ (List.mem_append_left _ (List.mem_of_getElem? (l := wsC_20) (i := 5) rfl)))))))))))))))))))))
theorem wsCw_506 : (.methodLink RX11 43 yX0_changeLine : Cond) ∈ wsC := List.mem_append_right _ (List.mem_append_right _ (List.mem_append_right _ (List.mem_append_right _ (List.mem_append_right _ (List.mem_append_right _ (List.mem_append_right _ (List.mem_append_right _ (List.mem_append_right _ (List.mem_append_right _ (List.mem_append_right _ (List.mem_append_right _ (List.mem_append_right _ (List.mem_append_right _ (List.mem_append_right _ (List.mem_append_right _ (List.mem_append_right _ (List.mem_append_right _ (List.mem_append_right _ (List.mem_append_right _ (List.mem_append_left _ (List.mem_of_getElem? (l := wsC_20) (i := 6) rfl)))))))))))))))))))))
theorem wsCw_507 : (.instanceMethod yX0_changeLine : Cond) ∈ wsC := List.mem_append_right _ (List.mem_append_right _ (List.mem_append_right _ (List.mem_append_right _ (List.mem_append_right _ (List.mem_append_right _ (List.mem_append_right _ (List.mem_append_right _ (List.mem_append_right _ (List.mem_append_right _ (List.mem_append_right _ (List.mem_append_right _ (List.mem_append_right _ (List.mem_append_right _ (List.mem_append_right _ (List.mem_append_right _ (List.mem_append_right _ (List.mem_append_right _ (List.mem_append_right _ (List.mem_append_right _ (List.mem_append_left _ (List.mem_of_getElem? (l := wsC_20) (i := 7) rfl)))))))))))))))))))))
theorem wsCw_508 : (.selects RX0 yX0_changeLine yX0_changeLine : Cond) ∈ wsC := List.mem_append_right _ (List.mem_append_right _ (List.mem_append_right _ (List.mem_append_right _ (List.mem_append_right _ (List.mem_append_right _ (List.mem_append_right _ (List.mem_append_right _ (List.mem_append_right _ (List.mem_append_right _ (List.mem_append_right _ (List.mem_append_right _ (List.mem_append_right _ (List.mem_append_right _ (List.mem_append_right _ (List.mem_append_right _ (List.mem_append_right _ (List.mem_append_right _ (List.mem_append_right _ (List.mem_append_right _ (List.mem_append_left _ (List.mem_of_getElem? (l := wsC_20) (i := 8) rfl)))))))))))))))))))))
theorem wsCw_509 : (.code yX0_changeLine cX0_changeLine 6 (some .int) : Cond) ∈ wsC := List.mem_append_right _ (List.mem_append_right _ (List.mem_append_right _ (List.mem_append_right _ (List.mem_append_right _ (List.mem_append_right _ (List.mem_append_right _ (List.mem_append_right _ (List.mem_append_right _ (List.mem_append_right _ (List.mem_append_right _ (List.mem_append_right _ (List.mem_append_right _ (List.mem_append_right _ (List.mem_append_right _ (List.mem_append_right _ (List.mem_append_right _ (List.mem_append_right _ (List.mem_append_right _ (List.mem_append_right _ (List.mem_append_left _ (List.mem_of_getElem? (l := wsC_20) (i := 9) rfl)))))))))))))))))))))
theorem wsCw_510 : (.methodLink RX11 47 yX11_needTwoBanks : Cond) ∈ wsC := List.mem_append_right _ (List.mem_append_right _ (List.mem_append_right _ (List.mem_append_right _ (List.mem_append_right _ (List.mem_append_right _ (List.mem_append_right _ (List.mem_append_right _ (List.mem_append_right _ (List.mem_append_right _ (List.mem_append_right _ (List.mem_append_right _ (List.mem_append_right _ (List.mem_append_right _ (List.mem_append_right _ (List.mem_append_right _ (List.mem_append_right _ (List.mem_append_right _ (List.mem_append_right _ (List.mem_append_right _ (List.mem_append_left _ (List.mem_of_getElem? (l := wsC_20) (i := 10) rfl)))))))))))))))))))))
theorem wsCw_511 : (.static yX11_needTwoBanks : Cond) ∈ wsC := List.mem_append_right _ (List.mem_append_right _ (List.mem_append_right _ (List.mem_append_right _ (List.mem_append_right _ (List.mem_append_right _ (List.mem_append_right _ (List.mem_append_right _ (List.mem_append_right _ (List.mem_append_right _ (List.mem_append_right _ (List.mem_append_right _ (List.mem_append_right _ (List.mem_append_right _ (List.mem_append_right _ (List.mem_append_right _ (List.mem_append_right _ (List.mem_append_right _ (List.mem_append_right _ (List.mem_append_right _ (List.mem_append_left _ (List.mem_of_getElem? (l := wsC_20) (i := 11) rfl)))))))))))))))))))))
theorem wsCw_512 : (.code yX11_needTwoBanks cX11_needTwoBanks 2 none : Cond) ∈ wsC := List.mem_append_right _ (List.mem_append_right _ (List.mem_append_right _ (List.mem_append_right _ (List.mem_append_right _ (List.mem_append_right _ (List.mem_append_right _ (List.mem_append_right _ (List.mem_append_right _ (List.mem_append_right _ (List.mem_append_right _ (List.mem_append_right _ (List.mem_append_right _ (List.mem_append_right _ (List.mem_append_right _ (List.mem_append_right _ (List.mem_append_right _ (List.mem_append_right _ (List.mem_append_right _ (List.mem_append_right _ (List.mem_append_left _ (List.mem_of_getElem? (l := wsC_20) (i := 12) rfl)))))))))))))))))))))
theorem wsCw_513 : (.methodLink RX11 50 yX11_pairSlot : Cond) ∈ wsC := List.mem_append_right _ (List.mem_append_right _ (List.mem_append_right _ (List.mem_append_right _ (List.mem_append_right _ (List.mem_append_right _ (List.mem_append_right _ (List.mem_append_right _ (List.mem_append_right _ (List.mem_append_right _ (List.mem_append_right _ (List.mem_append_right _ (List.mem_append_right _ (List.mem_append_right _ (List.mem_append_right _ (List.mem_append_right _ (List.mem_append_right _ (List.mem_append_right _ (List.mem_append_right _ (List.mem_append_right _ (List.mem_append_left _ (List.mem_of_getElem? (l := wsC_20) (i := 13) rfl)))))))))))))))))))))
theorem wsCw_514 : (.methodLink RX11 53 yX0_changeLimit : Cond) ∈ wsC := List.mem_append_right _ (List.mem_append_right _ (List.mem_append_right _ (List.mem_append_right _ (List.mem_append_right _ (List.mem_append_right _ (List.mem_append_right _ (List.mem_append_right _ (List.mem_append_right _ (List.mem_append_right _ (List.mem_append_right _ (List.mem_append_right _ (List.mem_append_right _ (List.mem_append_right _ (List.mem_append_right _ (List.mem_append_right _ (List.mem_append_right _ (List.mem_append_right _ (List.mem_append_right _ (List.mem_append_right _ (List.mem_append_left _ (List.mem_of_getElem? (l := wsC_20) (i := 14) rfl)))))))))))))))))))))
theorem wsCw_515 : (.instanceMethod yX0_changeLimit : Cond) ∈ wsC := List.mem_append_right _ (List.mem_append_right _ (List.mem_append_right _ (List.mem_append_right _ (List.mem_append_right _ (List.mem_append_right _ (List.mem_append_right _ (List.mem_append_right _ (List.mem_append_right _ (List.mem_append_right _ (List.mem_append_right _ (List.mem_append_right _ (List.mem_append_right _ (List.mem_append_right _ (List.mem_append_right _ (List.mem_append_right _ (List.mem_append_right _ (List.mem_append_right _ (List.mem_append_right _ (List.mem_append_right _ (List.mem_append_left _ (List.mem_of_getElem? (l := wsC_20) (i := 15) rfl)))))))))))))))))))))
theorem wsCw_516 : (.selects RX0 yX0_changeLimit yX0_changeLimit : Cond) ∈ wsC := List.mem_append_right _ (List.mem_append_right _ (List.mem_append_right _ (List.mem_append_right _ (List.mem_append_right _ (List.mem_append_right _ (List.mem_append_right _ (List.mem_append_right _ (List.mem_append_right _ (List.mem_append_right _ (List.mem_append_right _ (List.mem_append_right _ (List.mem_append_right _ (List.mem_append_right _ (List.mem_append_right _ (List.mem_append_right _ (List.mem_append_right _ (List.mem_append_right _ (List.mem_append_right _ (List.mem_append_right _ (List.mem_append_left _ (List.mem_of_getElem? (l := wsC_20) (i := 16) rfl)))))))))))))))))))))
theorem wsCw_517 : (.code yX0_changeLimit cX0_changeLimit 4 (some .int) : Cond) ∈ wsC := List.mem_append_right _ (List.mem_append_right _ (List.mem_append_right _ (List.mem_append_right _ (List.mem_append_right _ (List.mem_append_right _ (List.mem_append_right _ (List.mem_append_right _ (List.mem_append_right _ (List.mem_append_right _ (List.mem_append_right _ (List.mem_append_right _ (List.mem_append_right _ (List.mem_append_right _ (List.mem_append_right _ (List.mem_append_right _ (List.mem_append_right _ (List.mem_append_right _ (List.mem_append_right _ (List.mem_append_right _ (List.mem_append_left _ (List.mem_of_getElem? (l := wsC_20) (i := 17) rfl)))))))))))))))))))))
theorem wsCw_518 : (.fieldLink RX11 57 "MillstreamPayments$Exchange" "outages" "LMillstreamPayments$Row;" : Cond) ∈ wsC := List.mem_append_right _ (List.mem_append_right _ (List.mem_append_right _ (List.mem_append_right _ (List.mem_append_right _ (List.mem_append_right _ (List.mem_append_right _ (List.mem_append_right _ (List.mem_append_right _ (List.mem_append_right _ (List.mem_append_right _ (List.mem_append_right _ (List.mem_append_right _ (List.mem_append_right _ (List.mem_append_right _ (List.mem_append_right _ (List.mem_append_right _ (List.mem_append_right _ (List.mem_append_right _ (List.mem_append_right _ (List.mem_append_left _ (List.mem_of_getElem? (l := wsC_20) (i := 18) rfl)))))))))))))))))))))
theorem wsCw_519 : (.methodLink RX11 61 yX9_isSet : Cond) ∈ wsC := List.mem_append_right _ (List.mem_append_right _ (List.mem_append_right _ (List.mem_append_right _ (List.mem_append_right _ (List.mem_append_right _ (List.mem_append_right _ (List.mem_append_right _ (List.mem_append_right _ (List.mem_append_right _ (List.mem_append_right _ (List.mem_append_right _ (List.mem_append_right _ (List.mem_append_right _ (List.mem_append_right _ (List.mem_append_right _ (List.mem_append_right _ (List.mem_append_right _ (List.mem_append_right _ (List.mem_append_right _ (List.mem_append_left _ (List.mem_of_getElem? (l := wsC_20) (i := 19) rfl)))))))))))))))))))))
theorem wsCw_520 : (.methodLink RX11 67 yX9_mark : Cond) ∈ wsC := List.mem_append_right _ (List.mem_append_right _ (List.mem_append_right _ (List.mem_append_right _ (List.mem_append_right _ (List.mem_append_right _ (List.mem_append_right _ (List.mem_append_right _ (List.mem_append_right _ (List.mem_append_right _ (List.mem_append_right _ (List.mem_append_right _ (List.mem_append_right _ (List.mem_append_right _ (List.mem_append_right _ (List.mem_append_right _ (List.mem_append_right _ (List.mem_append_right _ (List.mem_append_right _ (List.mem_append_right _ (List.mem_append_left _ (List.mem_of_getElem? (l := wsC_20) (i := 20) rfl)))))))))))))))))))))
theorem wsCw_521 : (.fieldLink RX11 71 "MillstreamPayments$Exchange" "calendar" "LMillstreamPayments$Calendar;" : Cond) ∈ wsC := List.mem_append_right _ (List.mem_append_right _ (List.mem_append_right _ (List.mem_append_right _ (List.mem_append_right _ (List.mem_append_right _ (List.mem_append_right _ (List.mem_append_right _ (List.mem_append_right _ (List.mem_append_right _ (List.mem_append_right _ (List.mem_append_right _ (List.mem_append_right _ (List.mem_append_right _ (List.mem_append_right _ (List.mem_append_right _ (List.mem_append_right _ (List.mem_append_right _ (List.mem_append_right _ (List.mem_append_right _ (List.mem_append_left _ (List.mem_of_getElem? (l := wsC_20) (i := 21) rfl)))))))))))))))))))))
theorem wsCw_522 : (.methodLink RX11 75 yX4_changeHoliday : Cond) ∈ wsC := List.mem_append_right _ (List.mem_append_right _ (List.mem_append_right _ (List.mem_append_right _ (List.mem_append_right _ (List.mem_append_right _ (List.mem_append_right _ (List.mem_append_right _ (List.mem_append_right _ (List.mem_append_right _ (List.mem_append_right _ (List.mem_append_right _ (List.mem_append_right _ (List.mem_append_right _ (List.mem_append_right _ (List.mem_append_right _ (List.mem_append_right _ (List.mem_append_right _ (List.mem_append_right _ (List.mem_append_right _ (List.mem_append_left _ (List.mem_of_getElem? (l := wsC_20) (i := 22) rfl)))))))))))))))))))))
theorem wsCw_523 : (.instanceMethod yX4_changeHoliday : Cond) ∈ wsC := List.mem_append_right _ (List.mem_append_right _ (List.mem_append_right _ (List.mem_append_right _ (List.mem_append_right _ (List.mem_append_right _ (List.mem_append_right _ (List.mem_append_right _ (List.mem_append_right _ (List.mem_append_right _ (List.mem_append_right _ (List.mem_append_right _ (List.mem_append_right _ (List.mem_append_right _ (List.mem_append_right _ (List.mem_append_right _ (List.mem_append_right _ (List.mem_append_right _ (List.mem_append_right _ (List.mem_append_right _ (List.mem_append_left _ (List.mem_of_getElem? (l := wsC_20) (i := 23) rfl)))))))))))))))))))))
theorem wsCw_524 : (.selects RX4 yX4_changeHoliday yX4_changeHoliday : Cond) ∈ wsC := List.mem_append_right _ (List.mem_append_right _ (List.mem_append_right _ (List.mem_append_right _ (List.mem_append_right _ (List.mem_append_right _ (List.mem_append_right _ (List.mem_append_right _ (List.mem_append_right _ (List.mem_append_right _ (List.mem_append_right _ (List.mem_append_right _ (List.mem_append_right _ (List.mem_append_right _ (List.mem_append_right _ (List.mem_append_right _ (List.mem_append_right _ (List.mem_append_right _ (List.mem_append_right _ (List.mem_append_right _ (List.mem_append_left _ (List.mem_of_getElem? (l := wsC_20) (i := 24) rfl)))))))))))))))))))))
theorem wsCw_525 : (.code yX4_changeHoliday cX4_changeHoliday 4 none : Cond) ∈ wsC := List.mem_append_right _ (List.mem_append_right _ (List.mem_append_right _ (List.mem_append_right _ (List.mem_append_right _ (List.mem_append_right _ (List.mem_append_right _ (List.mem_append_right _ (List.mem_append_right _ (List.mem_append_right _ (List.mem_append_right _ (List.mem_append_right _ (List.mem_append_right _ (List.mem_append_right _ (List.mem_append_right _ (List.mem_append_right _ (List.mem_append_right _ (List.mem_append_right _ (List.mem_append_right _ (List.mem_append_right _ (List.mem_append_right _ (List.mem_append_left _ (List.mem_of_getElem? (l := wsC_21) (i := 0) rfl))))))))))))))))))))))
theorem wsCw_526 : (.methodLink RX11 81 yX4_isOpen : Cond) ∈ wsC := List.mem_append_right _ (List.mem_append_right _ (List.mem_append_right _ (List.mem_append_right _ (List.mem_append_right _ (List.mem_append_right _ (List.mem_append_right _ (List.mem_append_right _ (List.mem_append_right _ (List.mem_append_right _ (List.mem_append_right _ (List.mem_append_right _ (List.mem_append_right _ (List.mem_append_right _ (List.mem_append_right _ (List.mem_append_right _ (List.mem_append_right _ (List.mem_append_right _ (List.mem_append_right _ (List.mem_append_right _ (List.mem_append_right _ (List.mem_append_left _ (List.mem_of_getElem? (l := wsC_21) (i := 1) rfl))))))))))))))))))))))
theorem wsCw_527 : (.fieldLink RX11 85 "MillstreamPayments$Exchange" "listed" "LMillstreamPayments$Row;" : Cond) ∈ wsC := List.mem_append_right _ (List.mem_append_right _ (List.mem_append_right _ (List.mem_append_right _ (List.mem_append_right _ (List.mem_append_right _ (List.mem_append_right _ (List.mem_append_right _ (List.mem_append_right _ (List.mem_append_right _ (List.mem_append_right _ (List.mem_append_right _ (List.mem_append_right _ (List.mem_append_right _ (List.mem_append_right _ (List.mem_append_right _ (List.mem_append_right _ (List.mem_append_right _ (List.mem_append_right _ (List.mem_append_right _ (List.mem_append_right _ (List.mem_append_left _ (List.mem_of_getElem? (l := wsC_21) (i := 2) rfl))))))))))))))))))))))
theorem wsCw_528 : (.methodLink RX11 88 yX6_holdPaymentsFor : Cond) ∈ wsC := List.mem_append_right _ (List.mem_append_right _ (List.mem_append_right _ (List.mem_append_right _ (List.mem_append_right _ (List.mem_append_right _ (List.mem_append_right _ (List.mem_append_right _ (List.mem_append_right _ (List.mem_append_right _ (List.mem_append_right _ (List.mem_append_right _ (List.mem_append_right _ (List.mem_append_right _ (List.mem_append_right _ (List.mem_append_right _ (List.mem_append_right _ (List.mem_append_right _ (List.mem_append_right _ (List.mem_append_right _ (List.mem_append_right _ (List.mem_append_left _ (List.mem_of_getElem? (l := wsC_21) (i := 3) rfl))))))))))))))))))))))
theorem wsCw_529 : (.instanceMethod yX6_holdPaymentsFor : Cond) ∈ wsC := List.mem_append_right _ (List.mem_append_right _ (List.mem_append_right _ (List.mem_append_right _ (List.mem_append_right _ (List.mem_append_right _ (List.mem_append_right _ (List.mem_append_right _ (List.mem_append_right _ (List.mem_append_right _ (List.mem_append_right _ (List.mem_append_right _ (List.mem_append_right _ (List.mem_append_right _ (List.mem_append_right _ (List.mem_append_right _ (List.mem_append_right _ (List.mem_append_right _ (List.mem_append_right _ (List.mem_append_right _ (List.mem_append_right _ (List.mem_append_left _ (List.mem_of_getElem? (l := wsC_21) (i := 4) rfl))))))))))))))))))))))
theorem wsCw_530 : (.selects RX6 yX6_holdPaymentsFor yX6_holdPaymentsFor : Cond) ∈ wsC := List.mem_append_right _ (List.mem_append_right _ (List.mem_append_right _ (List.mem_append_right _ (List.mem_append_right _ (List.mem_append_right _ (List.mem_append_right _ (List.mem_append_right _ (List.mem_append_right _ (List.mem_append_right _ (List.mem_append_right _ (List.mem_append_right _ (List.mem_append_right _ (List.mem_append_right _ (List.mem_append_right _ (List.mem_append_right _ (List.mem_append_right _ (List.mem_append_right _ (List.mem_append_right _ (List.mem_append_right _ (List.mem_append_right _ (List.mem_append_left _ (List.mem_of_getElem? (l := wsC_21) (i := 5) rfl))))))))))))))))))))))
theorem wsCw_531 : (.code yX6_holdPaymentsFor cX6_holdPaymentsFor 5 (some .int) : Cond) ∈ wsC := List.mem_append_right _ (List.mem_append_right _ (List.mem_append_right _ (List.mem_append_right _ (List.mem_append_right _ (List.mem_append_right _ (List.mem_append_right _ (List.mem_append_right _ (List.mem_append_right _ (List.mem_append_right _ (List.mem_append_right _ (List.mem_append_right _ (List.mem_append_right _ (List.mem_append_right _ (List.mem_append_right _ (List.mem_append_right _ (List.mem_append_right _ (List.mem_append_right _ (List.mem_append_right _ (List.mem_append_right _ (List.mem_append_right _ (List.mem_append_left _ (List.mem_of_getElem? (l := wsC_21) (i := 6) rfl))))))))))))))))))))))
theorem wsCw_532 : (.classLink RX11 259 "java/lang/IllegalStateException" : Cond) ∈ wsC := List.mem_append_right _ (List.mem_append_right _ (List.mem_append_right _ (List.mem_append_right _ (List.mem_append_right _ (List.mem_append_right _ (List.mem_append_right _ (List.mem_append_right _ (List.mem_append_right _ (List.mem_append_right _ (List.mem_append_right _ (List.mem_append_right _ (List.mem_append_right _ (List.mem_append_right _ (List.mem_append_right _ (List.mem_append_right _ (List.mem_append_right _ (List.mem_append_right _ (List.mem_append_right _ (List.mem_append_right _ (List.mem_append_right _ (List.mem_append_left _ (List.mem_of_getElem? (l := wsC_21) (i := 7) rfl))))))))))))))))))))))
theorem wsCw_533 : (.initialized "java/lang/IllegalStateException" : Cond) ∈ wsC := List.mem_append_right _ (List.mem_append_right _ (List.mem_append_right _ (List.mem_append_right _ (List.mem_append_right _ (List.mem_append_right _ (List.mem_append_right _ (List.mem_append_right _ (List.mem_append_right _ (List.mem_append_right _ (List.mem_append_right _ (List.mem_append_right _ (List.mem_append_right _ (List.mem_append_right _ (List.mem_append_right _ (List.mem_append_right _ (List.mem_append_right _ (List.mem_append_right _ (List.mem_append_right _ (List.mem_append_right _ (List.mem_append_right _ (List.mem_append_left _ (List.mem_of_getElem? (l := wsC_21) (i := 8) rfl))))))))))))))))))))))
theorem wsCw_534 : (.classLink RX11 96 RX10 : Cond) ∈ wsC := List.mem_append_right _ (List.mem_append_right _ (List.mem_append_right _ (List.mem_append_right _ (List.mem_append_right _ (List.mem_append_right _ (List.mem_append_right _ (List.mem_append_right _ (List.mem_append_right _ (List.mem_append_right _ (List.mem_append_right _ (List.mem_append_right _ (List.mem_append_right _ (List.mem_append_right _ (List.mem_append_right _ (List.mem_append_right _ (List.mem_append_right _ (List.mem_append_right _ (List.mem_append_right _ (List.mem_append_right _ (List.mem_append_right _ (List.mem_append_left _ (List.mem_of_getElem? (l := wsC_21) (i := 9) rfl))))))))))))))))))))))
theorem wsCw_535 : (.fieldLink RX11 105 "MillstreamPayments$Exchange" "register" "LMillstreamPayments$Register;" : Cond) ∈ wsC := List.mem_append_right _ (List.mem_append_right _ (List.mem_append_right _ (List.mem_append_right _ (List.mem_append_right _ (List.mem_append_right _ (List.mem_append_right _ (List.mem_append_right _ (List.mem_append_right _ (List.mem_append_right _ (List.mem_append_right _ (List.mem_append_right _ (List.mem_append_right _ (List.mem_append_right _ (List.mem_append_right _ (List.mem_append_right _ (List.mem_append_right _ (List.mem_append_right _ (List.mem_append_right _ (List.mem_append_right _ (List.mem_append_right _ (List.mem_append_left _ (List.mem_of_getElem? (l := wsC_21) (i := 10) rfl))))))))))))))))))))))
theorem wsCw_536 : (.fieldLink RX11 115 "MillstreamPayments$Payment" "terms" "LMillstreamPayments$Terms;" : Cond) ∈ wsC := List.mem_append_right _ (List.mem_append_right _ (List.mem_append_right _ (List.mem_append_right _ (List.mem_append_right _ (List.mem_append_right _ (List.mem_append_right _ (List.mem_append_right _ (List.mem_append_right _ (List.mem_append_right _ (List.mem_append_right _ (List.mem_append_right _ (List.mem_append_right _ (List.mem_append_right _ (List.mem_append_right _ (List.mem_append_right _ (List.mem_append_right _ (List.mem_append_right _ (List.mem_append_right _ (List.mem_append_right _ (List.mem_append_right _ (List.mem_append_left _ (List.mem_of_getElem? (l := wsC_21) (i := 11) rfl))))))))))))))))))))))
theorem wsCw_537 : (.fieldLink RX11 125 "MillstreamPayments$Exchange" "doubles" "I" : Cond) ∈ wsC := List.mem_append_right _ (List.mem_append_right _ (List.mem_append_right _ (List.mem_append_right _ (List.mem_append_right _ (List.mem_append_right _ (List.mem_append_right _ (List.mem_append_right _ (List.mem_append_right _ (List.mem_append_right _ (List.mem_append_right _ (List.mem_append_right _ (List.mem_append_right _ (List.mem_append_right _ (List.mem_append_right _ (List.mem_append_right _ (List.mem_append_right _ (List.mem_append_right _ (List.mem_append_right _ (List.mem_append_right _ (List.mem_append_right _ (List.mem_append_left _ (List.mem_of_getElem? (l := wsC_21) (i := 12) rfl))))))))))))))))))))))
theorem wsCw_538 : (.fieldLink RX11 129 "MillstreamPayments$Payment" "number" "I" : Cond) ∈ wsC := List.mem_append_right _ (List.mem_append_right _ (List.mem_append_right _ (List.mem_append_right _ (List.mem_append_right _ (List.mem_append_right _ (List.mem_append_right _ (List.mem_append_right _ (List.mem_append_right _ (List.mem_append_right _ (List.mem_append_right _ (List.mem_append_right _ (List.mem_append_right _ (List.mem_append_right _ (List.mem_append_right _ (List.mem_append_right _ (List.mem_append_right _ (List.mem_append_right _ (List.mem_append_right _ (List.mem_append_right _ (List.mem_append_right _ (List.mem_append_left _ (List.mem_of_getElem? (l := wsC_21) (i := 13) rfl))))))))))))))))))))))
theorem wsCw_539 : (.methodLink RX11 92 yX11_needState : Cond) ∈ wsC := List.mem_append_right _ (List.mem_append_right _ (List.mem_append_right _ (List.mem_append_right _ (List.mem_append_right _ (List.mem_append_right _ (List.mem_append_right _ (List.mem_append_right _ (List.mem_append_right _ (List.mem_append_right _ (List.mem_append_right _ (List.mem_append_right _ (List.mem_append_right _ (List.mem_append_right _ (List.mem_append_right _ (List.mem_append_right _ (List.mem_append_right _ (List.mem_append_right _ (List.mem_append_right _ (List.mem_append_right _ (List.mem_append_right _ (List.mem_append_left _ (List.mem_of_getElem? (l := wsC_21) (i := 14) rfl))))))))))))))))))))))
theorem wsCw_540 : (.static yX11_needState : Cond) ∈ wsC := List.mem_append_right _ (List.mem_append_right _ (List.mem_append_right _ (List.mem_append_right _ (List.mem_append_right _ (List.mem_append_right _ (List.mem_append_right _ (List.mem_append_right _ (List.mem_append_right _ (List.mem_append_right _ (List.mem_append_right _ (List.mem_append_right _ (List.mem_append_right _ (List.mem_append_right _ (List.mem_append_right _ (List.mem_append_right _ (List.mem_append_right _ (List.mem_append_right _ (List.mem_append_right _ (List.mem_append_right _ (List.mem_append_right _ (List.mem_append_left _ (List.mem_of_getElem? (l := wsC_21) (i := 15) rfl))))))))))))))))))))))
theorem wsCw_541 : (.code yX11_needState cX11_needState 1 none : Cond) ∈ wsC := List.mem_append_right _ (List.mem_append_right _ (List.mem_append_right _ (List.mem_append_right _ (List.mem_append_right _ (List.mem_append_right _ (List.mem_append_right _ (List.mem_append_right _ (List.mem_append_right _ (List.mem_append_right _ (List.mem_append_right _ (List.mem_append_right _ (List.mem_append_right _ (List.mem_append_right _ (List.mem_append_right _ (List.mem_append_right _ (List.mem_append_right _ (List.mem_append_right _ (List.mem_append_right _ (List.mem_append_right _ (List.mem_append_right _ (List.mem_append_left _ (List.mem_of_getElem? (l := wsC_21) (i := 16) rfl))))))))))))))))))))))
theorem wsCw_542 : (.methodLink RX11 98 yX10_init : Cond) ∈ wsC := List.mem_append_right _ (List.mem_append_right _ (List.mem_append_right _ (List.mem_append_right _ (List.mem_append_right _ (List.mem_append_right _ (List.mem_append_right _ (List.mem_append_right _ (List.mem_append_right _ (List.mem_append_right _ (List.mem_append_right _ (List.mem_append_right _ (List.mem_append_right _ (List.mem_append_right _ (List.mem_append_right _ (List.mem_append_right _ (List.mem_append_right _ (List.mem_append_right _ (List.mem_append_right _ (List.mem_append_right _ (List.mem_append_right _ (List.mem_append_left _ (List.mem_of_getElem? (l := wsC_21) (i := 17) rfl))))))))))))))))))))))
theorem wsCw_543 : (.methodLink RX11 101 yX10_arrange : Cond) ∈ wsC := List.mem_append_right _ (List.mem_append_right _ (List.mem_append_right _ (List.mem_append_right _ (List.mem_append_right _ (List.mem_append_right _ (List.mem_append_right _ (List.mem_append_right _ (List.mem_append_right _ (List.mem_append_right _ (List.mem_append_right _ (List.mem_append_right _ (List.mem_append_right _ (List.mem_append_right _ (List.mem_append_right _ (List.mem_append_right _ (List.mem_append_right _ (List.mem_append_right _ (List.mem_append_right _ (List.mem_append_right _ (List.mem_append_right _ (List.mem_append_left _ (List.mem_of_getElem? (l := wsC_21) (i := 18) rfl))))))))))))))))))))))
theorem wsCw_544 : (.methodLink RX11 109 yX8_toldBy : Cond) ∈ wsC := List.mem_append_right _ (List.mem_append_right _ (List.mem_append_right _ (List.mem_append_right _ (List.mem_append_right _ (List.mem_append_right _ (List.mem_append_right _ (List.mem_append_right _ (List.mem_append_right _ (List.mem_append_right _ (List.mem_append_right _ (List.mem_append_right _ (List.mem_append_right _ (List.mem_append_right _ (List.mem_append_right _ (List.mem_append_right _ (List.mem_append_right _ (List.mem_append_right _ (List.mem_append_right _ (List.mem_append_right _ (List.mem_append_right _ (List.mem_append_left _ (List.mem_of_getElem? (l := wsC_21) (i := 19) rfl))))))))))))))))))))))
theorem wsCw_545 : (.instanceMethod yX8_toldBy : Cond) ∈ wsC := List.mem_append_right _ (List.mem_append_right _ (List.mem_append_right _ (List.mem_append_right _ (List.mem_append_right _ (List.mem_append_right _ (List.mem_append_right _ (List.mem_append_right _ (List.mem_append_right _ (List.mem_append_right _ (List.mem_append_right _ (List.mem_append_right _ (List.mem_append_right _ (List.mem_append_right _ (List.mem_append_right _ (List.mem_append_right _ (List.mem_append_right _ (List.mem_append_right _ (List.mem_append_right _ (List.mem_append_right _ (List.mem_append_right _ (List.mem_append_left _ (List.mem_of_getElem? (l := wsC_21) (i := 20) rfl))))))))))))))))))))))
theorem wsCw_546 : (.selects RX8 yX8_toldBy yX8_toldBy : Cond) ∈ wsC := List.mem_append_right _ (List.mem_append_right _ (List.mem_append_right _ (List.mem_append_right _ (List.mem_append_right _ (List.mem_append_right _ (List.mem_append_right _ (List.mem_append_right _ (List.mem_append_right _ (List.mem_append_right _ (List.mem_append_right _ (List.mem_append_right _ (List.mem_append_right _ (List.mem_append_right _ (List.mem_append_right _ (List.mem_append_right _ (List.mem_append_right _ (List.mem_append_right _ (List.mem_append_right _ (List.mem_append_right _ (List.mem_append_right _ (List.mem_append_left _ (List.mem_of_getElem? (l := wsC_21) (i := 21) rfl))))))))))))))))))))))
theorem wsCw_547 : (.code yX8_toldBy cX8_toldBy 3 (some (.object "MillstreamPayments$Payment")) : Cond) ∈ wsC := List.mem_append_right _ (List.mem_append_right _ (List.mem_append_right _ (List.mem_append_right _ (List.mem_append_right _ (List.mem_append_right _ (List.mem_append_right _ (List.mem_append_right _ (List.mem_append_right _ (List.mem_append_right _ (List.mem_append_right _ (List.mem_append_right _ (List.mem_append_right _ (List.mem_append_right _ (List.mem_append_right _ (List.mem_append_right _ (List.mem_append_right _ (List.mem_append_right _ (List.mem_append_right _ (List.mem_append_right _ (List.mem_append_right _ (List.mem_append_left _ (List.mem_of_getElem? (l := wsC_21) (i := 22) rfl))))))))))))))))))))))
theorem wsCw_548 : (.methodLink RX11 121 yX10_isLike : Cond) ∈ wsC := List.mem_append_right _ (List.mem_append_right _ (List.mem_append_right _ (List.mem_append_right _ (List.mem_append_right _ (List.mem_append_right _ (List.mem_append_right _ (List.mem_append_right _ (List.mem_append_right _ (List.mem_append_right _ (List.mem_append_right _ (List.mem_append_right _ (List.mem_append_right _ (List.mem_append_right _ (List.mem_append_right _ (List.mem_append_right _ (List.mem_append_right _ (List.mem_append_right _ (List.mem_append_right _ (List.mem_append_right _ (List.mem_append_right _ (List.mem_append_left _ (List.mem_of_getElem? (l := wsC_21) (i := 23) rfl))))))))))))))))))))))
theorem wsCw_549 : (.instanceMethod yX10_isLike : Cond) ∈ wsC := List.mem_append_right _ (List.mem_append_right _ (List.mem_append_right _ (List.mem_append_right _ (List.mem_append_right _ (List.mem_append_right _ (List.mem_append_right _ (List.mem_append_right _ (List.mem_append_right _ (List.mem_append_right _ (List.mem_append_right _ (List.mem_append_right _ (List.mem_append_right _ (List.mem_append_right _ (List.mem_append_right _ (List.mem_append_right _ (List.mem_append_right _ (List.mem_append_right _ (List.mem_append_right _ (List.mem_append_right _ (List.mem_append_right _ (List.mem_append_left _ (List.mem_of_getElem? (l := wsC_21) (i := 24) rfl))))))))))))))))))))))
theorem wsCw_550 : (.selects RX10 yX10_isLike yX10_isLike : Cond) ∈ wsC := List.mem_append_right _ (List.mem_append_right _ (List.mem_append_right _ (List.mem_append_right _ (List.mem_append_right _ (List.mem_append_right _ (List.mem_append_right _ (List.mem_append_right _ (List.mem_append_right _ (List.mem_append_right _ (List.mem_append_right _ (List.mem_append_right _ (List.mem_append_right _ (List.mem_append_right _ (List.mem_append_right _ (List.mem_append_right _ (List.mem_append_right _ (List.mem_append_right _ (List.mem_append_right _ (List.mem_append_right _ (List.mem_append_right _ (List.mem_append_right _ (List.mem_append_left _ (List.mem_of_getElem? (l := wsC_22) (i := 0) rfl)))))))))))))))))))))))
theorem wsCw_551 : (.code yX10_isLike cX10_isLike 2 (some .boolean) : Cond) ∈ wsC := List.mem_append_right _ (List.mem_append_right _ (List.mem_append_right _ (List.mem_append_right _ (List.mem_append_right _ (List.mem_append_right _ (List.mem_append_right _ (List.mem_append_right _ (List.mem_append_right _ (List.mem_append_right _ (List.mem_append_right _ (List.mem_append_right _ (List.mem_append_right _ (List.mem_append_right _ (List.mem_append_right _ (List.mem_append_right _ (List.mem_append_right _ (List.mem_append_right _ (List.mem_append_right _ (List.mem_append_right _ (List.mem_append_right _ (List.mem_append_right _ (List.mem_append_left _ (List.mem_of_getElem? (l := wsC_22) (i := 1) rfl)))))))))))))))))))))))
theorem wsCw_552 : (.methodLink RX11 132 yX8_isFull : Cond) ∈ wsC := List.mem_append_right _ (List.mem_append_right _ (List.mem_append_right _ (List.mem_append_right _ (List.mem_append_right _ (List.mem_append_right _ (List.mem_append_right _ (List.mem_append_right _ (List.mem_append_right _ (List.mem_append_right _ (List.mem_append_right _ (List.mem_append_right _ (List.mem_append_right _ (List.mem_append_right _ (List.mem_append_right _ (List.mem_append_right _ (List.mem_append_right _ (List.mem_append_right _ (List.mem_append_right _ (List.mem_append_right _ (List.mem_append_right _ (List.mem_append_right _ (List.mem_append_left _ (List.mem_of_getElem? (l := wsC_22) (i := 2) rfl)))))))))))))))))))))))
theorem wsCw_553 : (.instanceMethod yX8_isFull : Cond) ∈ wsC := List.mem_append_right _ (List.mem_append_right _ (List.mem_append_right _ (List.mem_append_right _ (List.mem_append_right _ (List.mem_append_right _ (List.mem_append_right _ (List.mem_append_right _ (List.mem_append_right _ (List.mem_append_right _ (List.mem_append_right _ (List.mem_append_right _ (List.mem_append_right _ (List.mem_append_right _ (List.mem_append_right _ (List.mem_append_right _ (List.mem_append_right _ (List.mem_append_right _ (List.mem_append_right _ (List.mem_append_right _ (List.mem_append_right _ (List.mem_append_right _ (List.mem_append_left _ (List.mem_of_getElem? (l := wsC_22) (i := 3) rfl)))))))))))))))))))))))
theorem wsCw_554 : (.selects RX8 yX8_isFull yX8_isFull : Cond) ∈ wsC := List.mem_append_right _ (List.mem_append_right _ (List.mem_append_right _ (List.mem_append_right _ (List.mem_append_right _ (List.mem_append_right _ (List.mem_append_right _ (List.mem_append_right _ (List.mem_append_right _ (List.mem_append_right _ (List.mem_append_right _ (List.mem_append_right _ (List.mem_append_right _ (List.mem_append_right _ (List.mem_append_right _ (List.mem_append_right _ (List.mem_append_right _ (List.mem_append_right _ (List.mem_append_right _ (List.mem_append_right _ (List.mem_append_right _ (List.mem_append_right _ (List.mem_append_left _ (List.mem_of_getElem? (l := wsC_22) (i := 4) rfl)))))))))))))))))))))))
theorem wsCw_555 : (.code yX8_isFull cX8_isFull 1 (some .boolean) : Cond) ∈ wsC := List.mem_append_right _ (List.mem_append_right _ (List.mem_append_right _ (List.mem_append_right _ (List.mem_append_right _ (List.mem_append_right _ (List.mem_append_right _ (List.mem_append_right _ (List.mem_append_right _ (List.mem_append_right _ (List.mem_append_right _ (List.mem_append_right _ (List.mem_append_right _ (List.mem_append_right _ (List.mem_append_right _ (List.mem_append_right _ (List.mem_append_right _ (List.mem_append_right _ (List.mem_append_right _ (List.mem_append_right _ (List.mem_append_right _ (List.mem_append_right _ (List.mem_append_left _ (List.mem_of_getElem? (l := wsC_22) (i := 5) rfl)))))))))))))))))))))))
theorem wsCw_556 : (.methodLink RX11 136 yX6_bringIn : Cond) ∈ wsC := List.mem_append_right _ (List.mem_append_right _ (List.mem_append_right _ (List.mem_append_right _ (List.mem_append_right _ (List.mem_append_right _ (List.mem_append_right _ (List.mem_append_right _ (List.mem_append_right _ (List.mem_append_right _ (List.mem_append_right _ (List.mem_append_right _ (List.mem_append_right _ (List.mem_append_right _ (List.mem_append_right _ (List.mem_append_right _ (List.mem_append_right _ (List.mem_append_right _ (List.mem_append_right _ (List.mem_append_right _ (List.mem_append_right _ (List.mem_append_right _ (List.mem_append_left _ (List.mem_of_getElem? (l := wsC_22) (i := 6) rfl)))))))))))))))))))))))
theorem wsCw_557 : (.instanceMethod yX6_bringIn : Cond) ∈ wsC := List.mem_append_right _ (List.mem_append_right _ (List.mem_append_right _ (List.mem_append_right _ (List.mem_append_right _ (List.mem_append_right _ (List.mem_append_right _ (List.mem_append_right _ (List.mem_append_right _ (List.mem_append_right _ (List.mem_append_right _ (List.mem_append_right _ (List.mem_append_right _ (List.mem_append_right _ (List.mem_append_right _ (List.mem_append_right _ (List.mem_append_right _ (List.mem_append_right _ (List.mem_append_right _ (List.mem_append_right _ (List.mem_append_right _ (List.mem_append_right _ (List.mem_append_left _ (List.mem_of_getElem? (l := wsC_22) (i := 7) rfl)))))))))))))))))))))))
theorem wsCw_558 : (.selects RX6 yX6_bringIn yX6_bringIn : Cond) ∈ wsC := List.mem_append_right _ (List.mem_append_right _ (List.mem_append_right _ (List.mem_append_right _ (List.mem_append_right _ (List.mem_append_right _ (List.mem_append_right _ (List.mem_append_right _ (List.mem_append_right _ (List.mem_append_right _ (List.mem_append_right _ (List.mem_append_right _ (List.mem_append_right _ (List.mem_append_right _ (List.mem_append_right _ (List.mem_append_right _ (List.mem_append_right _ (List.mem_append_right _ (List.mem_append_right _ (List.mem_append_right _ (List.mem_append_right _ (List.mem_append_right _ (List.mem_append_left _ (List.mem_of_getElem? (l := wsC_22) (i := 8) rfl)))))))))))))))))))))))
theorem wsCw_559 : (.code yX6_bringIn cX6_bringIn 3 (some .int) : Cond) ∈ wsC := List.mem_append_right _ (List.mem_append_right _ (List.mem_append_right _ (List.mem_append_right _ (List.mem_append_right _ (List.mem_append_right _ (List.mem_append_right _ (List.mem_append_right _ (List.mem_append_right _ (List.mem_append_right _ (List.mem_append_right _ (List.mem_append_right _ (List.mem_append_right _ (List.mem_append_right _ (List.mem_append_right _ (List.mem_append_right _ (List.mem_append_right _ (List.mem_append_right _ (List.mem_append_right _ (List.mem_append_right _ (List.mem_append_right _ (List.mem_append_right _ (List.mem_append_left _ (List.mem_of_getElem? (l := wsC_22) (i := 9) rfl)))))))))))))))))))))))
theorem wsCw_560 : (.methodLink RX11 140 yX8_keepMessage : Cond) ∈ wsC := List.mem_append_right _ (List.mem_append_right _ (List.mem_append_right _ (List.mem_append_right _ (List.mem_append_right _ (List.mem_append_right _ (List.mem_append_right _ (List.mem_append_right _ (List.mem_append_right _ (List.mem_append_right _ (List.mem_append_right _ (List.mem_append_right _ (List.mem_append_right _ (List.mem_append_right _ (List.mem_append_right _ (List.mem_append_right _ (List.mem_append_right _ (List.mem_append_right _ (List.mem_append_right _ (List.mem_append_right _ (List.mem_append_right _ (List.mem_append_right _ (List.mem_append_left _ (List.mem_of_getElem? (l := wsC_22) (i := 10) rfl)))))))))))))))))))))))
theorem wsCw_561 : (.instanceMethod yX8_keepMessage : Cond) ∈ wsC := List.mem_append_right _ (List.mem_append_right _ (List.mem_append_right _ (List.mem_append_right _ (List.mem_append_right _ (List.mem_append_right _ (List.mem_append_right _ (List.mem_append_right _ (List.mem_append_right _ (List.mem_append_right _ (List.mem_append_right _ (List.mem_append_right _ (List.mem_append_right _ (List.mem_append_right _ (List.mem_append_right _ (List.mem_append_right _ (List.mem_append_right _ (List.mem_append_right _ (List.mem_append_right _ (List.mem_append_right _ (List.mem_append_right _ (List.mem_append_right _ (List.mem_append_left _ (List.mem_of_getElem? (l := wsC_22) (i := 11) rfl)))))))))))))))))))))))
theorem wsCw_562 : (.selects RX8 yX8_keepMessage yX8_keepMessage : Cond) ∈ wsC := List.mem_append_right _ (List.mem_append_right _ (List.mem_append_right _ (List.mem_append_right _ (List.mem_append_right _ (List.mem_append_right _ (List.mem_append_right _ (List.mem_append_right _ (List.mem_append_right _ (List.mem_append_right _ (List.mem_append_right _ (List.mem_append_right _ (List.mem_append_right _ (List.mem_append_right _ (List.mem_append_right _ (List.mem_append_right _ (List.mem_append_right _ (List.mem_append_right _ (List.mem_append_right _ (List.mem_append_right _ (List.mem_append_right _ (List.mem_append_right _ (List.mem_append_left _ (List.mem_of_getElem? (l := wsC_22) (i := 12) rfl)))))))))))))))))))))))
theorem wsCw_563 : (.code yX8_keepMessage cX8_keepMessage 4 none : Cond) ∈ wsC := List.mem_append_right _ (List.mem_append_right _ (List.mem_append_right _ (List.mem_append_right _ (List.mem_append_right _ (List.mem_append_right _ (List.mem_append_right _ (List.mem_append_right _ (List.mem_append_right _ (List.mem_append_right _ (List.mem_append_right _ (List.mem_append_right _ (List.mem_append_right _ (List.mem_append_right _ (List.mem_append_right _ (List.mem_append_right _ (List.mem_append_right _ (List.mem_append_right _ (List.mem_append_right _ (List.mem_append_right _ (List.mem_append_right _ (List.mem_append_right _ (List.mem_append_left _ (List.mem_of_getElem? (l := wsC_22) (i := 13) rfl)))))))))))))))))))))))
theorem wsCw_564 : (.methodLink RX11 264 yX8_find : Cond) ∈ wsC := List.mem_append_right _ (List.mem_append_right _ (List.mem_append_right _ (List.mem_append_right _ (List.mem_append_right _ (List.mem_append_right _ (List.mem_append_right _ (List.mem_append_right _ (List.mem_append_right _ (List.mem_append_right _ (List.mem_append_right _ (List.mem_append_right _ (List.mem_append_right _ (List.mem_append_right _ (List.mem_append_right _ (List.mem_append_right _ (List.mem_append_right _ (List.mem_append_right _ (List.mem_append_right _ (List.mem_append_right _ (List.mem_append_right _ (List.mem_append_right _ (List.mem_append_left _ (List.mem_of_getElem? (l := wsC_22) (i := 14) rfl)))))))))))))))))))))))
theorem wsCw_565 : (.fieldLink RX11 151 "MillstreamPayments$Payment" "leg" "LMillstreamPayments$Payment;" : Cond) ∈ wsC := List.mem_append_right _ (List.mem_append_right _ (List.mem_append_right _ (List.mem_append_right _ (List.mem_append_right _ (List.mem_append_right _ (List.mem_append_right _ (List.mem_append_right _ (List.mem_append_right _ (List.mem_append_right _ (List.mem_append_right _ (List.mem_append_right _ (List.mem_append_right _ (List.mem_append_right _ (List.mem_append_right _ (List.mem_append_right _ (List.mem_append_right _ (List.mem_append_right _ (List.mem_append_right _ (List.mem_append_right _ (List.mem_append_right _ (List.mem_append_right _ (List.mem_append_left _ (List.mem_of_getElem? (l := wsC_22) (i := 15) rfl)))))))))))))))))))))))
theorem wsCw_566 : (.methodLink RX11 143 yX11_needPayment : Cond) ∈ wsC := List.mem_append_right _ (List.mem_append_right _ (List.mem_append_right _ (List.mem_append_right _ (List.mem_append_right _ (List.mem_append_right _ (List.mem_append_right _ (List.mem_append_right _ (List.mem_append_right _ (List.mem_append_right _ (List.mem_append_right _ (List.mem_append_right _ (List.mem_append_right _ (List.mem_append_right _ (List.mem_append_right _ (List.mem_append_right _ (List.mem_append_right _ (List.mem_append_right _ (List.mem_append_right _ (List.mem_append_right _ (List.mem_append_right _ (List.mem_append_right _ (List.mem_append_left _ (List.mem_of_getElem? (l := wsC_22) (i := 16) rfl)))))))))))))))))))))))
theorem wsCw_567 : (.instanceMethod yX11_needPayment : Cond) ∈ wsC := List.mem_append_right _ (List.mem_append_right _ (List.mem_append_right _ (List.mem_append_right _ (List.mem_append_right _ (List.mem_append_right _ (List.mem_append_right _ (List.mem_append_right _ (List.mem_append_right _ (List.mem_append_right _ (List.mem_append_right _ (List.mem_append_right _ (List.mem_append_right _ (List.mem_append_right _ (List.mem_append_right _ (List.mem_append_right _ (List.mem_append_right _ (List.mem_append_right _ (List.mem_append_right _ (List.mem_append_right _ (List.mem_append_right _ (List.mem_append_right _ (List.mem_append_left _ (List.mem_of_getElem? (l := wsC_22) (i := 17) rfl)))))))))))))))))))))))
theorem wsCw_568 : (.selects RX11 yX11_needPayment yX11_needPayment : Cond) ∈ wsC := List.mem_append_right _ (List.mem_append_right _ (List.mem_append_right _ (List.mem_append_right _ (List.mem_append_right _ (List.mem_append_right _ (List.mem_append_right _ (List.mem_append_right _ (List.mem_append_right _ (List.mem_append_right _ (List.mem_append_right _ (List.mem_append_right _ (List.mem_append_right _ (List.mem_append_right _ (List.mem_append_right _ (List.mem_append_right _ (List.mem_append_right _ (List.mem_append_right _ (List.mem_append_right _ (List.mem_append_right _ (List.mem_append_right _ (List.mem_append_right _ (List.mem_append_left _ (List.mem_of_getElem? (l := wsC_22) (i := 18) rfl)))))))))))))))))))))))
theorem wsCw_569 : (.code yX11_needPayment cX11_needPayment 3 (some (.object "MillstreamPayments$Payment")) : Cond) ∈ wsC := List.mem_append_right _ (List.mem_append_right _ (List.mem_append_right _ (List.mem_append_right _ (List.mem_append_right _ (List.mem_append_right _ (List.mem_append_right _ (List.mem_append_right _ (List.mem_append_right _ (List.mem_append_right _ (List.mem_append_right _ (List.mem_append_right _ (List.mem_append_right _ (List.mem_append_right _ (List.mem_append_right _ (List.mem_append_right _ (List.mem_append_right _ (List.mem_append_right _ (List.mem_append_right _ (List.mem_append_right _ (List.mem_append_right _ (List.mem_append_right _ (List.mem_append_left _ (List.mem_of_getElem? (l := wsC_22) (i := 19) rfl)))))))))))))))))))))))
theorem wsCw_570 : (.methodLink RX11 147 yX7_canBeLegWith : Cond) ∈ wsC := List.mem_append_right _ (List.mem_append_right _ (List.mem_append_right _ (List.mem_append_right _ (List.mem_append_right _ (List.mem_append_right _ (List.mem_append_right _ (List.mem_append_right _ (List.mem_append_right _ (List.mem_append_right _ (List.mem_append_right _ (List.mem_append_right _ (List.mem_append_right _ (List.mem_append_right _ (List.mem_append_right _ (List.mem_append_right _ (List.mem_append_right _ (List.mem_append_right _ (List.mem_append_right _ (List.mem_append_right _ (List.mem_append_right _ (List.mem_append_right _ (List.mem_append_left _ (List.mem_of_getElem? (l := wsC_22) (i := 20) rfl)))))))))))))))))))))))
theorem wsCw_571 : (.instanceMethod yX7_canBeLegWith : Cond) ∈ wsC := List.mem_append_right _ (List.mem_append_right _ (List.mem_append_right _ (List.mem_append_right _ (List.mem_append_right _ (List.mem_append_right _ (List.mem_append_right _ (List.mem_append_right _ (List.mem_append_right _ (List.mem_append_right _ (List.mem_append_right _ (List.mem_append_right _ (List.mem_append_right _ (List.mem_append_right _ (List.mem_append_right _ (List.mem_append_right _ (List.mem_append_right _ (List.mem_append_right _ (List.mem_append_right _ (List.mem_append_right _ (List.mem_append_right _ (List.mem_append_right _ (List.mem_append_left _ (List.mem_of_getElem? (l := wsC_22) (i := 21) rfl)))))))))))))))))))))))
theorem wsCw_572 : (.selects RX7 yX7_canBeLegWith yX7_canBeLegWith : Cond) ∈ wsC := List.mem_append_right _ (List.mem_append_right _ (List.mem_append_right _ (List.mem_append_right _ (List.mem_append_right _ (List.mem_append_right _ (List.mem_append_right _ (List.mem_append_right _ (List.mem_append_right _ (List.mem_append_right _ (List.mem_append_right _ (List.mem_append_right _ (List.mem_append_right _ (List.mem_append_right _ (List.mem_append_right _ (List.mem_append_right _ (List.mem_append_right _ (List.mem_append_right _ (List.mem_append_right _ (List.mem_append_right _ (List.mem_append_right _ (List.mem_append_right _ (List.mem_append_left _ (List.mem_of_getElem? (l := wsC_22) (i := 22) rfl)))))))))))))))))))))))
theorem wsCw_573 : (.code yX7_canBeLegWith cX7_canBeLegWith 2 (some .boolean) : Cond) ∈ wsC := List.mem_append_right _ (List.mem_append_right _ (List.mem_append_right _ (List.mem_append_right _ (List.mem_append_right _ (List.mem_append_right _ (List.mem_append_right _ (List.mem_append_right _ (List.mem_append_right _ (List.mem_append_right _ (List.mem_append_right _ (List.mem_append_right _ (List.mem_append_right _ (List.mem_append_right _ (List.mem_append_right _ (List.mem_append_right _ (List.mem_append_right _ (List.mem_append_right _ (List.mem_append_right _ (List.mem_append_right _ (List.mem_append_right _ (List.mem_append_right _ (List.mem_append_left _ (List.mem_of_getElem? (l := wsC_22) (i := 23) rfl)))))))))))))))))))))))
theorem wsCw_574 : (.methodLink RX11 155 yX7_hasEnded : Cond) ∈ wsC := List.mem_append_right _ (List.mem_append_right _ (List.mem_append_right _ (List.mem_append_right _ (List.mem_append_right _ (List.mem_append_right _ (List.mem_append_right _ (List.mem_append_right _ (List.mem_append_right _ (List.mem_append_right _ (List.mem_append_right _ (List.mem_append_right _ (List.mem_append_right _ (List.mem_append_right _ (List.mem_append_right _ (List.mem_append_right _ (List.mem_append_right _ (List.mem_append_right _ (List.mem_append_right _ (List.mem_append_right _ (List.mem_append_right _ (List.mem_append_right _ (List.mem_append_left _ (List.mem_of_getElem? (l := wsC_22) (i := 24) rfl)))))))))))))))))))))))
theorem wsCw_575 : (.methodLink RX11 158 yX7_giveBack : Cond) ∈ wsC := List.mem_append_right _ (List.mem_append_right _ (List.mem_append_right _ (List.mem_append_right _ (List.mem_append_right _ (List.mem_append_right _ (List.mem_append_right _ (List.mem_append_right _ (List.mem_append_right _ (List.mem_append_right _ (List.mem_append_right _ (List.mem_append_right _ (List.mem_append_right _ (List.mem_append_right _ (List.mem_append_right _ (List.mem_append_right _ (List.mem_append_right _ (List.mem_append_right _ (List.mem_append_right _ (List.mem_append_right _ (List.mem_append_right _ (List.mem_append_right _ (List.mem_append_right _ (List.mem_append_left _ (List.mem_of_getElem? (l := wsC_23) (i := 0) rfl))))))))))))))))))))))))
theorem wsCw_576 : (.fieldLink RX11 161 "MillstreamPayments$Payment" "state" "I" : Cond) ∈ wsC := List.mem_append_right _ (List.mem_append_right _ (List.mem_append_right _ (List.mem_append_right _ (List.mem_append_right _ (List.mem_append_right _ (List.mem_append_right _ (List.mem_append_right _ (List.mem_append_right _ (List.mem_append_right _ (List.mem_append_right _ (List.mem_append_right _ (List.mem_append_right _ (List.mem_append_right _ (List.mem_append_right _ (List.mem_append_right _ (List.mem_append_right _ (List.mem_append_right _ (List.mem_append_right _ (List.mem_append_right _ (List.mem_append_right _ (List.mem_append_right _ (List.mem_append_right _ (List.mem_append_left _ (List.mem_of_getElem? (l := wsC_23) (i := 1) rfl))))))))))))))))))))))))
theorem wsCw_577 : (.fieldLink RX11 164 "MillstreamPayments$Payment" "officer" "I" : Cond) ∈ wsC := List.mem_append_right _ (List.mem_append_right _ (List.mem_append_right _ (List.mem_append_right _ (List.mem_append_right _ (List.mem_append_right _ (List.mem_append_right _ (List.mem_append_right _ (List.mem_append_right _ (List.mem_append_right _ (List.mem_append_right _ (List.mem_append_right _ (List.mem_append_right _ (List.mem_append_right _ (List.mem_append_right _ (List.mem_append_right _ (List.mem_append_right _ (List.mem_append_right _ (List.mem_append_right _ (List.mem_append_right _ (List.mem_append_right _ (List.mem_append_right _ (List.mem_append_right _ (List.mem_append_left _ (List.mem_of_getElem? (l := wsC_23) (i := 2) rfl))))))))))))))))))))))))
theorem wsCw_578 : (.fieldLink RX11 167 "MillstreamPayments$Payment" "isReleased" "Z" : Cond) ∈ wsC := List.mem_append_right _ (List.mem_append_right _ (List.mem_append_right _ (List.mem_append_right _ (List.mem_append_right _ (List.mem_append_right _ (List.mem_append_right _ (List.mem_append_right _ (List.mem_append_right _ (List.mem_append_right _ (List.mem_append_right _ (List.mem_append_right _ (List.mem_append_right _ (List.mem_append_right _ (List.mem_append_right _ (List.mem_append_right _ (List.mem_append_right _ (List.mem_append_right _ (List.mem_append_right _ (List.mem_append_right _ (List.mem_append_right _ (List.mem_append_right _ (List.mem_append_right _ (List.mem_append_left _ (List.mem_of_getElem? (l := wsC_23) (i := 3) rfl))))))))))))))))))))))))
theorem wsCw_579 : (.methodLink RX11 171 yX6_letEnter : Cond) ∈ wsC := List.mem_append_right _ (List.mem_append_right _ (List.mem_append_right _ (List.mem_append_right _ (List.mem_append_right _ (List.mem_append_right _ (List.mem_append_right _ (List.mem_append_right _ (List.mem_append_right _ (List.mem_append_right _ (List.mem_append_right _ (List.mem_append_right _ (List.mem_append_right _ (List.mem_append_right _ (List.mem_append_right _ (List.mem_append_right _ (List.mem_append_right _ (List.mem_append_right _ (List.mem_append_right _ (List.mem_append_right _ (List.mem_append_right _ (List.mem_append_right _ (List.mem_append_right _ (List.mem_append_left _ (List.mem_of_getElem? (l := wsC_23) (i := 4) rfl))))))))))))))))))))))))
theorem wsCw_580 : (.methodLink RX11 175 yX6_settleMost : Cond) ∈ wsC := List.mem_append_right _ (List.mem_append_right _ (List.mem_append_right _ (List.mem_append_right _ (List.mem_append_right _ (List.mem_append_right _ (List.mem_append_right _ (List.mem_append_right _ (List.mem_append_right _ (List.mem_append_right _ (List.mem_append_right _ (List.mem_append_right _ (List.mem_append_right _ (List.mem_append_right _ (List.mem_append_right _ (List.mem_append_right _ (List.mem_append_right _ (List.mem_append_right _ (List.mem_append_right _ (List.mem_append_right _ (List.mem_append_right _ (List.mem_append_right _ (List.mem_append_right _ (List.mem_append_left _ (List.mem_of_getElem? (l := wsC_23) (i := 5) rfl))))))))))))))))))))))))
theorem wsCw_581 : (.fieldLink RX11 178 "MillstreamPayments$Calendar" "day" "I" : Cond) ∈ wsC := List.mem_append_right _ (List.mem_append_right _ (List.mem_append_right _ (List.mem_append_right _ (List.mem_append_right _ (List.mem_append_right _ (List.mem_append_right _ (List.mem_append_right _ (List.mem_append_right _ (List.mem_append_right _ (List.mem_append_right _ (List.mem_append_right _ (List.mem_append_right _ (List.mem_append_right _ (List.mem_append_right _ (List.mem_append_right _ (List.mem_append_right _ (List.mem_append_right _ (List.mem_append_right _ (List.mem_append_right _ (List.mem_append_right _ (List.mem_append_right _ (List.mem_append_right _ (List.mem_append_left _ (List.mem_of_getElem? (l := wsC_23) (i := 6) rfl))))))))))))))))))))))))
theorem wsCw_582 : (.fieldLink RX11 181 "MillstreamPayments$Payment" "finalDay" "I" : Cond) ∈ wsC := List.mem_append_right _ (List.mem_append_right _ (List.mem_append_right _ (List.mem_append_right _ (List.mem_append_right _ (List.mem_append_right _ (List.mem_append_right _ (List.mem_append_right _ (List.mem_append_right _ (List.mem_append_right _ (List.mem_append_right _ (List.mem_append_right _ (List.mem_append_right _ (List.mem_append_right _ (List.mem_append_right _ (List.mem_append_right _ (List.mem_append_right _ (List.mem_append_right _ (List.mem_append_right _ (List.mem_append_right _ (List.mem_append_right _ (List.mem_append_right _ (List.mem_append_right _ (List.mem_append_left _ (List.mem_of_getElem? (l := wsC_23) (i := 7) rfl))))))))))))))))))))))))
theorem wsCw_583 : (.fieldLink RX11 184 "MillstreamPayments$Payment" "lastAnswerDay" "I" : Cond) ∈ wsC := List.mem_append_right _ (List.mem_append_right _ (List.mem_append_right _ (List.mem_append_right _ (List.mem_append_right _ (List.mem_append_right _ (List.mem_append_right _ (List.mem_append_right _ (List.mem_append_right _ (List.mem_append_right _ (List.mem_append_right _ (List.mem_append_right _ (List.mem_append_right _ (List.mem_append_right _ (List.mem_append_right _ (List.mem_append_right _ (List.mem_append_right _ (List.mem_append_right _ (List.mem_append_right _ (List.mem_append_right _ (List.mem_append_right _ (List.mem_append_right _ (List.mem_append_right _ (List.mem_append_left _ (List.mem_of_getElem? (l := wsC_23) (i := 8) rfl))))))))))))))))))))))))
theorem wsCw_584 : (.fieldLink RX11 187 "MillstreamPayments$Payment" "isAnswered" "Z" : Cond) ∈ wsC := List.mem_append_right _ (List.mem_append_right _ (List.mem_append_right _ (List.mem_append_right _ (List.mem_append_right _ (List.mem_append_right _ (List.mem_append_right _ (List.mem_append_right _ (List.mem_append_right _ (List.mem_append_right _ (List.mem_append_right _ (List.mem_append_right _ (List.mem_append_right _ (List.mem_append_right _ (List.mem_append_right _ (List.mem_append_right _ (List.mem_append_right _ (List.mem_append_right _ (List.mem_append_right _ (List.mem_append_right _ (List.mem_append_right _ (List.mem_append_right _ (List.mem_append_right _ (List.mem_append_left _ (List.mem_of_getElem? (l := wsC_23) (i := 9) rfl))))))))))))))))))))))))
theorem wsCw_585 : (.methodLink RX11 190 yX6_termsBack : Cond) ∈ wsC := List.mem_append_right _ (List.mem_append_right _ (List.mem_append_right _ (List.mem_append_right _ (List.mem_append_right _ (List.mem_append_right _ (List.mem_append_right _ (List.mem_append_right _ (List.mem_append_right _ (List.mem_append_right _ (List.mem_append_right _ (List.mem_append_right _ (List.mem_append_right _ (List.mem_append_right _ (List.mem_append_right _ (List.mem_append_right _ (List.mem_append_right _ (List.mem_append_right _ (List.mem_append_right _ (List.mem_append_right _ (List.mem_append_right _ (List.mem_append_right _ (List.mem_append_right _ (List.mem_append_left _ (List.mem_of_getElem? (l := wsC_23) (i := 10) rfl))))))))))))))))))))))))
theorem wsCw_586 : (.instanceMethod yX6_termsBack : Cond) ∈ wsC := List.mem_append_right _ (List.mem_append_right _ (List.mem_append_right _ (List.mem_append_right _ (List.mem_append_right _ (List.mem_append_right _ (List.mem_append_right _ (List.mem_append_right _ (List.mem_append_right _ (List.mem_append_right _ (List.mem_append_right _ (List.mem_append_right _ (List.mem_append_right _ (List.mem_append_right _ (List.mem_append_right _ (List.mem_append_right _ (List.mem_append_right _ (List.mem_append_right _ (List.mem_append_right _ (List.mem_append_right _ (List.mem_append_right _ (List.mem_append_right _ (List.mem_append_right _ (List.mem_append_left _ (List.mem_of_getElem? (l := wsC_23) (i := 11) rfl))))))))))))))))))))))))
theorem wsCw_587 : (.selects RX6 yX6_termsBack yX6_termsBack : Cond) ∈ wsC := List.mem_append_right _ (List.mem_append_right _ (List.mem_append_right _ (List.mem_append_right _ (List.mem_append_right _ (List.mem_append_right _ (List.mem_append_right _ (List.mem_append_right _ (List.mem_append_right _ (List.mem_append_right _ (List.mem_append_right _ (List.mem_append_right _ (List.mem_append_right _ (List.mem_append_right _ (List.mem_append_right _ (List.mem_append_right _ (List.mem_append_right _ (List.mem_append_right _ (List.mem_append_right _ (List.mem_append_right _ (List.mem_append_right _ (List.mem_append_right _ (List.mem_append_right _ (List.mem_append_left _ (List.mem_of_getElem? (l := wsC_23) (i := 12) rfl))))))))))))))))))))))))
theorem wsCw_588 : (.code yX6_termsBack cX6_termsBack 3 (some (.object "MillstreamPayments$Terms")) : Cond) ∈ wsC := List.mem_append_right _ (List.mem_append_right _ (List.mem_append_right _ (List.mem_append_right _ (List.mem_append_right _ (List.mem_append_right _ (List.mem_append_right _ (List.mem_append_right _ (List.mem_append_right _ (List.mem_append_right _ (List.mem_append_right _ (List.mem_append_right _ (List.mem_append_right _ (List.mem_append_right _ (List.mem_append_right _ (List.mem_append_right _ (List.mem_append_right _ (List.mem_append_right _ (List.mem_append_right _ (List.mem_append_right _ (List.mem_append_right _ (List.mem_append_right _ (List.mem_append_right _ (List.mem_append_left _ (List.mem_of_getElem? (l := wsC_23) (i := 13) rfl))))))))))))))))))))))))
theorem wsCw_589 : (.methodLink RX11 194 yX6_closeDay : Cond) ∈ wsC := List.mem_append_right _ (List.mem_append_right _ (List.mem_append_right _ (List.mem_append_right _ (List.mem_append_right _ (List.mem_append_right _ (List.mem_append_right _ (List.mem_append_right _ (List.mem_append_right _ (List.mem_append_right _ (List.mem_append_right _ (List.mem_append_right _ (List.mem_append_right _ (List.mem_append_right _ (List.mem_append_right _ (List.mem_append_right _ (List.mem_append_right _ (List.mem_append_right _ (List.mem_append_right _ (List.mem_append_right _ (List.mem_append_right _ (List.mem_append_right _ (List.mem_append_right _ (List.mem_append_left _ (List.mem_of_getElem? (l := wsC_23) (i := 14) rfl))))))))))))))))))))))))
theorem wsCw_590 : (.instanceMethod yX6_closeDay : Cond) ∈ wsC := List.mem_append_right _ (List.mem_append_right _ (List.mem_append_right _ (List.mem_append_right _ (List.mem_append_right _ (List.mem_append_right _ (List.mem_append_right _ (List.mem_append_right _ (List.mem_append_right _ (List.mem_append_right _ (List.mem_append_right _ (List.mem_append_right _ (List.mem_append_right _ (List.mem_append_right _ (List.mem_append_right _ (List.mem_append_right _ (List.mem_append_right _ (List.mem_append_right _ (List.mem_append_right _ (List.mem_append_right _ (List.mem_append_right _ (List.mem_append_right _ (List.mem_append_right _ (List.mem_append_left _ (List.mem_of_getElem? (l := wsC_23) (i := 15) rfl))))))))))))))))))))))))
theorem wsCw_591 : (.selects RX6 yX6_closeDay yX6_closeDay : Cond) ∈ wsC := List.mem_append_right _ (List.mem_append_right _ (List.mem_append_right _ (List.mem_append_right _ (List.mem_append_right _ (List.mem_append_right _ (List.mem_append_right _ (List.mem_append_right _ (List.mem_append_right _ (List.mem_append_right _ (List.mem_append_right _ (List.mem_append_right _ (List.mem_append_right _ (List.mem_append_right _ (List.mem_append_right _ (List.mem_append_right _ (List.mem_append_right _ (List.mem_append_right _ (List.mem_append_right _ (List.mem_append_right _ (List.mem_append_right _ (List.mem_append_right _ (List.mem_append_right _ (List.mem_append_left _ (List.mem_of_getElem? (l := wsC_23) (i := 16) rfl))))))))))))))))))))))))
theorem wsCw_592 : (.code yX6_closeDay cX6_closeDay 3 (some .int) : Cond) ∈ wsC := List.mem_append_right _ (List.mem_append_right _ (List.mem_append_right _ (List.mem_append_right _ (List.mem_append_right _ (List.mem_append_right _ (List.mem_append_right _ (List.mem_append_right _ (List.mem_append_right _ (List.mem_append_right _ (List.mem_append_right _ (List.mem_append_right _ (List.mem_append_right _ (List.mem_append_right _ (List.mem_append_right _ (List.mem_append_right _ (List.mem_append_right _ (List.mem_append_right _ (List.mem_append_right _ (List.mem_append_right _ (List.mem_append_right _ (List.mem_append_right _ (List.mem_append_right _ (List.mem_append_left _ (List.mem_of_getElem? (l := wsC_23) (i := 17) rfl))))))))))))))))))))))))
theorem wsCw_593 : (.fieldLink RX11 197 "MillstreamPayments$Accounts" "book" "LMillstreamPayments$Book;" : Cond) ∈ wsC := List.mem_append_right _ (List.mem_append_right _ (List.mem_append_right _ (List.mem_append_right _ (List.mem_append_right _ (List.mem_append_right _ (List.mem_append_right _ (List.mem_append_right _ (List.mem_append_right _ (List.mem_append_right _ (List.mem_append_right _ (List.mem_append_right _ (List.mem_append_right _ (List.mem_append_right _ (List.mem_append_right _ (List.mem_append_right _ (List.mem_append_right _ (List.mem_append_right _ (List.mem_append_right _ (List.mem_append_right _ (List.mem_append_right _ (List.mem_append_right _ (List.mem_append_right _ (List.mem_append_left _ (List.mem_of_getElem? (l := wsC_23) (i := 18) rfl))))))))))))))))))))))))
theorem wsCw_594 : (.methodLink RX11 201 yX3_sumOf : Cond) ∈ wsC := List.mem_append_right _ (List.mem_append_right _ (List.mem_append_right _ (List.mem_append_right _ (List.mem_append_right _ (List.mem_append_right _ (List.mem_append_right _ (List.mem_append_right _ (List.mem_append_right _ (List.mem_append_right _ (List.mem_append_right _ (List.mem_append_right _ (List.mem_append_right _ (List.mem_append_right _ (List.mem_append_right _ (List.mem_append_right _ (List.mem_append_right _ (List.mem_append_right _ (List.mem_append_right _ (List.mem_append_right _ (List.mem_append_right _ (List.mem_append_right _ (List.mem_append_right _ (List.mem_append_left _ (List.mem_of_getElem? (l := wsC_23) (i := 19) rfl))))))))))))))))))))))))
theorem wsCw_595 : (.instanceMethod yX3_sumOf : Cond) ∈ wsC := List.mem_append_right _ (List.mem_append_right _ (List.mem_append_right _ (List.mem_append_right _ (List.mem_append_right _ (List.mem_append_right _ (List.mem_append_right _ (List.mem_append_right _ (List.mem_append_right _ (List.mem_append_right _ (List.mem_append_right _ (List.mem_append_right _ (List.mem_append_right _ (List.mem_append_right _ (List.mem_append_right _ (List.mem_append_right _ (List.mem_append_right _ (List.mem_append_right _ (List.mem_append_right _ (List.mem_append_right _ (List.mem_append_right _ (List.mem_append_right _ (List.mem_append_right _ (List.mem_append_left _ (List.mem_of_getElem? (l := wsC_23) (i := 20) rfl))))))))))))))))))))))))
theorem wsCw_596 : (.selects RX3 yX3_sumOf yX3_sumOf : Cond) ∈ wsC := List.mem_append_right _ (List.mem_append_right _ (List.mem_append_right _ (List.mem_append_right _ (List.mem_append_right _ (List.mem_append_right _ (List.mem_append_right _ (List.mem_append_right _ (List.mem_append_right _ (List.mem_append_right _ (List.mem_append_right _ (List.mem_append_right _ (List.mem_append_right _ (List.mem_append_right _ (List.mem_append_right _ (List.mem_append_right _ (List.mem_append_right _ (List.mem_append_right _ (List.mem_append_right _ (List.mem_append_right _ (List.mem_append_right _ (List.mem_append_right _ (List.mem_append_right _ (List.mem_append_left _ (List.mem_of_getElem? (l := wsC_23) (i := 21) rfl))))))))))))))))))))))))
theorem wsCw_597 : (.code yX3_sumOf cX3_sumOf 7 (some .long) : Cond) ∈ wsC := List.mem_append_right _ (List.mem_append_right _ (List.mem_append_right _ (List.mem_append_right _ (List.mem_append_right _ (List.mem_append_right _ (List.mem_append_right _ (List.mem_append_right _ (List.mem_append_right _ (List.mem_append_right _ (List.mem_append_right _ (List.mem_append_right _ (List.mem_append_right _ (List.mem_append_right _ (List.mem_append_right _ (List.mem_append_right _ (List.mem_append_right _ (List.mem_append_right _ (List.mem_append_right _ (List.mem_append_right _ (List.mem_append_right _ (List.mem_append_right _ (List.mem_append_right _ (List.mem_append_left _ (List.mem_of_getElem? (l := wsC_23) (i := 22) rfl))))))))))))))))))))))))
theorem wsCw_598 : (.methodLink RX11 206 yX0_paidOf : Cond) ∈ wsC := List.mem_append_right _ (List.mem_append_right _ (List.mem_append_right _ (List.mem_append_right _ (List.mem_append_right _ (List.mem_append_right _ (List.mem_append_right _ (List.mem_append_right _ (List.mem_append_right _ (List.mem_append_right _ (List.mem_append_right _ (List.mem_append_right _ (List.mem_append_right _ (List.mem_append_right _ (List.mem_append_right _ (List.mem_append_right _ (List.mem_append_right _ (List.mem_append_right _ (List.mem_append_right _ (List.mem_append_right _ (List.mem_append_right _ (List.mem_append_right _ (List.mem_append_right _ (List.mem_append_left _ (List.mem_of_getElem? (l := wsC_23) (i := 23) rfl))))))))))))))))))))))))
theorem wsCw_599 : (.instanceMethod yX0_paidOf : Cond) ∈ wsC := List.mem_append_right _ (List.mem_append_right _ (List.mem_append_right _ (List.mem_append_right _ (List.mem_append_right _ (List.mem_append_right _ (List.mem_append_right _ (List.mem_append_right _ (List.mem_append_right _ (List.mem_append_right _ (List.mem_append_right _ (List.mem_append_right _ (List.mem_append_right _ (List.mem_append_right _ (List.mem_append_right _ (List.mem_append_right _ (List.mem_append_right _ (List.mem_append_right _ (List.mem_append_right _ (List.mem_append_right _ (List.mem_append_right _ (List.mem_append_right _ (List.mem_append_right _ (List.mem_append_left _ (List.mem_of_getElem? (l := wsC_23) (i := 24) rfl))))))))))))))))))))))))
theorem wsCw_600 : (.selects RX0 yX0_paidOf yX0_paidOf : Cond) ∈ wsC := List.mem_append_right _ (List.mem_append_right _ (List.mem_append_right _ (List.mem_append_right _ (List.mem_append_right _ (List.mem_append_right _ (List.mem_append_right _ (List.mem_append_right _ (List.mem_append_right _ (List.mem_append_right _ (List.mem_append_right _ (List.mem_append_right _ (List.mem_append_right _ (List.mem_append_right _ (List.mem_append_right _ (List.mem_append_right _ (List.mem_append_right _ (List.mem_append_right _ (List.mem_append_right _ (List.mem_append_right _ (List.mem_append_right _ (List.mem_append_right _ (List.mem_append_right _ (List.mem_append_right _ (List.mem_append_left _ (List.mem_of_getElem? (l := wsC_24) (i := 0) rfl)))))))))))))))))))))))))
theorem wsCw_601 : (.code yX0_paidOf cX0_paidOf 2 (some .long) : Cond) ∈ wsC := List.mem_append_right _ (List.mem_append_right _ (List.mem_append_right _ (List.mem_append_right _ (List.mem_append_right _ (List.mem_append_right _ (List.mem_append_right _ (List.mem_append_right _ (List.mem_append_right _ (List.mem_append_right _ (List.mem_append_right _ (List.mem_append_right _ (List.mem_append_right _ (List.mem_append_right _ (List.mem_append_right _ (List.mem_append_right _ (List.mem_append_right _ (List.mem_append_right _ (List.mem_append_right _ (List.mem_append_right _ (List.mem_append_right _ (List.mem_append_right _ (List.mem_append_right _ (List.mem_append_right _ (List.mem_append_left _ (List.mem_of_getElem? (l := wsC_24) (i := 1) rfl)))))))))))))))))))))))))
theorem wsCw_602 : (.methodLink RX11 210 yX8_count : Cond) ∈ wsC := List.mem_append_right _ (List.mem_append_right _ (List.mem_append_right _ (List.mem_append_right _ (List.mem_append_right _ (List.mem_append_right _ (List.mem_append_right _ (List.mem_append_right _ (List.mem_append_right _ (List.mem_append_right _ (List.mem_append_right _ (List.mem_append_right _ (List.mem_append_right _ (List.mem_append_right _ (List.mem_append_right _ (List.mem_append_right _ (List.mem_append_right _ (List.mem_append_right _ (List.mem_append_right _ (List.mem_append_right _ (List.mem_append_right _ (List.mem_append_right _ (List.mem_append_right _ (List.mem_append_right _ (List.mem_append_left _ (List.mem_of_getElem? (l := wsC_24) (i := 2) rfl)))))))))))))))))))))))))
theorem wsCw_603 : (.methodLink RX11 220 yX8_queuedAt : Cond) ∈ wsC := List.mem_append_right _ (List.mem_append_right _ (List.mem_append_right _ (List.mem_append_right _ (List.mem_append_right _ (List.mem_append_right _ (List.mem_append_right _ (List.mem_append_right _ (List.mem_append_right _ (List.mem_append_right _ (List.mem_append_right _ (List.mem_append_right _ (List.mem_append_right _ (List.mem_append_right _ (List.mem_append_right _ (List.mem_append_right _ (List.mem_append_right _ (List.mem_append_right _ (List.mem_append_right _ (List.mem_append_right _ (List.mem_append_right _ (List.mem_append_right _ (List.mem_append_right _ (List.mem_append_right _ (List.mem_append_left _ (List.mem_of_getElem? (l := wsC_24) (i := 3) rfl)))))))))))))))))))))))))
theorem wsCw_604 : (.instanceMethod yX8_queuedAt : Cond) ∈ wsC := List.mem_append_right _ (List.mem_append_right _ (List.mem_append_right _ (List.mem_append_right _ (List.mem_append_right _ (List.mem_append_right _ (List.mem_append_right _ (List.mem_append_right _ (List.mem_append_right _ (List.mem_append_right _ (List.mem_append_right _ (List.mem_append_right _ (List.mem_append_right _ (List.mem_append_right _ (List.mem_append_right _ (List.mem_append_right _ (List.mem_append_right _ (List.mem_append_right _ (List.mem_append_right _ (List.mem_append_right _ (List.mem_append_right _ (List.mem_append_right _ (List.mem_append_right _ (List.mem_append_right _ (List.mem_append_left _ (List.mem_of_getElem? (l := wsC_24) (i := 4) rfl)))))))))))))))))))))))))
theorem wsCw_605 : (.selects RX8 yX8_queuedAt yX8_queuedAt : Cond) ∈ wsC := List.mem_append_right _ (List.mem_append_right _ (List.mem_append_right _ (List.mem_append_right _ (List.mem_append_right _ (List.mem_append_right _ (List.mem_append_right _ (List.mem_append_right _ (List.mem_append_right _ (List.mem_append_right _ (List.mem_append_right _ (List.mem_append_right _ (List.mem_append_right _ (List.mem_append_right _ (List.mem_append_right _ (List.mem_append_right _ (List.mem_append_right _ (List.mem_append_right _ (List.mem_append_right _ (List.mem_append_right _ (List.mem_append_right _ (List.mem_append_right _ (List.mem_append_right _ (List.mem_append_right _ (List.mem_append_left _ (List.mem_of_getElem? (l := wsC_24) (i := 5) rfl)))))))))))))))))))))))))
theorem wsCw_606 : (.code yX8_queuedAt cX8_queuedAt 6 (some .int) : Cond) ∈ wsC := List.mem_append_right _ (List.mem_append_right _ (List.mem_append_right _ (List.mem_append_right _ (List.mem_append_right _ (List.mem_append_right _ (List.mem_append_right _ (List.mem_append_right _ (List.mem_append_right _ (List.mem_append_right _ (List.mem_append_right _ (List.mem_append_right _ (List.mem_append_right _ (List.mem_append_right _ (List.mem_append_right _ (List.mem_append_right _ (List.mem_append_right _ (List.mem_append_right _ (List.mem_append_right _ (List.mem_append_right _ (List.mem_append_right _ (List.mem_append_right _ (List.mem_append_right _ (List.mem_append_right _ (List.mem_append_left _ (List.mem_of_getElem? (l := wsC_24) (i := 6) rfl)))))))))))))))))))))))))
theorem wsCw_607 : (.methodLink RX11 223 yX3_count : Cond) ∈ wsC := List.mem_append_right _ (List.mem_append_right _ (List.mem_append_right _ (List.mem_append_right _ (List.mem_append_right _ (List.mem_append_right _ (List.mem_append_right _ (List.mem_append_right _ (List.mem_append_right _ (List.mem_append_right _ (List.mem_append_right _ (List.mem_append_right _ (List.mem_append_right _ (List.mem_append_right _ (List.mem_append_right _ (List.mem_append_right _ (List.mem_append_right _ (List.mem_append_right _ (List.mem_append_right _ (List.mem_append_right _ (List.mem_append_right _ (List.mem_append_right _ (List.mem_append_right _ (List.mem_append_right _ (List.mem_append_left _ (List.mem_of_getElem? (l := wsC_24) (i := 7) rfl)))))))))))))))))))))))))
theorem wsCw_608 : (.instanceMethod yX3_count : Cond) ∈ wsC := List.mem_append_right _ (List.mem_append_right _ (List.mem_append_right _ (List.mem_append_right _ (List.mem_append_right _ (List.mem_append_right _ (List.mem_append_right _ (List.mem_append_right _ (List.mem_append_right _ (List.mem_append_right _ (List.mem_append_right _ (List.mem_append_right _ (List.mem_append_right _ (List.mem_append_right _ (List.mem_append_right _ (List.mem_append_right _ (List.mem_append_right _ (List.mem_append_right _ (List.mem_append_right _ (List.mem_append_right _ (List.mem_append_right _ (List.mem_append_right _ (List.mem_append_right _ (List.mem_append_right _ (List.mem_append_left _ (List.mem_of_getElem? (l := wsC_24) (i := 8) rfl)))))))))))))))))))))))))
theorem wsCw_609 : (.selects RX3 yX3_count yX3_count : Cond) ∈ wsC := List.mem_append_right _ (List.mem_append_right _ (List.mem_append_right _ (List.mem_append_right _ (List.mem_append_right _ (List.mem_append_right _ (List.mem_append_right _ (List.mem_append_right _ (List.mem_append_right _ (List.mem_append_right _ (List.mem_append_right _ (List.mem_append_right _ (List.mem_append_right _ (List.mem_append_right _ (List.mem_append_right _ (List.mem_append_right _ (List.mem_append_right _ (List.mem_append_right _ (List.mem_append_right _ (List.mem_append_right _ (List.mem_append_right _ (List.mem_append_right _ (List.mem_append_right _ (List.mem_append_right _ (List.mem_append_left _ (List.mem_of_getElem? (l := wsC_24) (i := 9) rfl)))))))))))))))))))))))))
theorem wsCw_610 : (.code yX3_count cX3_count 1 (some .int) : Cond) ∈ wsC := List.mem_append_right _ (List.mem_append_right _ (List.mem_append_right _ (List.mem_append_right _ (List.mem_append_right _ (List.mem_append_right _ (List.mem_append_right _ (List.mem_append_right _ (List.mem_append_right _ (List.mem_append_right _ (List.mem_append_right _ (List.mem_append_right _ (List.mem_append_right _ (List.mem_append_right _ (List.mem_append_right _ (List.mem_append_right _ (List.mem_append_right _ (List.mem_append_right _ (List.mem_append_right _ (List.mem_append_right _ (List.mem_append_right _ (List.mem_append_right _ (List.mem_append_right _ (List.mem_append_right _ (List.mem_append_left _ (List.mem_of_getElem? (l := wsC_24) (i := 10) rfl)))))))))))))))))))))))))
theorem wsCw_611 : (.methodLink RX11 224 yX3_find : Cond) ∈ wsC := List.mem_append_right _ (List.mem_append_right _ (List.mem_append_right _ (List.mem_append_right _ (List.mem_append_right _ (List.mem_append_right _ (List.mem_append_right _ (List.mem_append_right _ (List.mem_append_right _ (List.mem_append_right _ (List.mem_append_right _ (List.mem_append_right _ (List.mem_append_right _ (List.mem_append_right _ (List.mem_append_right _ (List.mem_append_right _ (List.mem_append_right _ (List.mem_append_right _ (List.mem_append_right _ (List.mem_append_right _ (List.mem_append_right _ (List.mem_append_right _ (List.mem_append_right _ (List.mem_append_right _ (List.mem_append_left _ (List.mem_of_getElem? (l := wsC_24) (i := 11) rfl)))))))))))))))))))))))))
theorem wsCw_612 : (.instanceMethod yX3_find : Cond) ∈ wsC := List.mem_append_right _ (List.mem_append_right _ (List.mem_append_right _ (List.mem_append_right _ (List.mem_append_right _ (List.mem_append_right _ (List.mem_append_right _ (List.mem_append_right _ (List.mem_append_right _ (List.mem_append_right _ (List.mem_append_right _ (List.mem_append_right _ (List.mem_append_right _ (List.mem_append_right _ (List.mem_append_right _ (List.mem_append_right _ (List.mem_append_right _ (List.mem_append_right _ (List.mem_append_right _ (List.mem_append_right _ (List.mem_append_right _ (List.mem_append_right _ (List.mem_append_right _ (List.mem_append_right _ (List.mem_append_left _ (List.mem_of_getElem? (l := wsC_24) (i := 12) rfl)))))))))))))))))))))))))
theorem wsCw_613 : (.selects RX3 yX3_find yX3_find : Cond) ∈ wsC := List.mem_append_right _ (List.mem_append_right _ (List.mem_append_right _ (List.mem_append_right _ (List.mem_append_right _ (List.mem_append_right _ (List.mem_append_right _ (List.mem_append_right _ (List.mem_append_right _ (List.mem_append_right _ (List.mem_append_right _ (List.mem_append_right _ (List.mem_append_right _ (List.mem_append_right _ (List.mem_append_right _ (List.mem_append_right _ (List.mem_append_right _ (List.mem_append_right _ (List.mem_append_right _ (List.mem_append_right _ (List.mem_append_right _ (List.mem_append_right _ (List.mem_append_right _ (List.mem_append_right _ (List.mem_append_left _ (List.mem_of_getElem? (l := wsC_24) (i := 13) rfl)))))))))))))))))))))))))
theorem wsCw_614 : (.code yX3_find cX3_find 2 (some (.object "MillstreamPayments$Entry")) : Cond) ∈ wsC := List.mem_append_right _ (List.mem_append_right _ (List.mem_append_right _ (List.mem_append_right _ (List.mem_append_right _ (List.mem_append_right _ (List.mem_append_right _ (List.mem_append_right _ (List.mem_append_right _ (List.mem_append_right _ (List.mem_append_right _ (List.mem_append_right _ (List.mem_append_right _ (List.mem_append_right _ (List.mem_append_right _ (List.mem_append_right _ (List.mem_append_right _ (List.mem_append_right _ (List.mem_append_right _ (List.mem_append_right _ (List.mem_append_right _ (List.mem_append_right _ (List.mem_append_right _ (List.mem_append_right _ (List.mem_append_left _ (List.mem_of_getElem? (l := wsC_24) (i := 14) rfl)))))))))))))))))))))))))
theorem wsCw_615 : (.methodLink RX11 232 yX5_part : Cond) ∈ wsC := List.mem_append_right _ (List.mem_append_right _ (List.mem_append_right _ (List.mem_append_right _ (List.mem_append_right _ (List.mem_append_right _ (List.mem_append_right _ (List.mem_append_right _ (List.mem_append_right _ (List.mem_append_right _ (List.mem_append_right _ (List.mem_append_right _ (List.mem_append_right _ (List.mem_append_right _ (List.mem_append_right _ (List.mem_append_right _ (List.mem_append_right _ (List.mem_append_right _ (List.mem_append_right _ (List.mem_append_right _ (List.mem_append_right _ (List.mem_append_right _ (List.mem_append_right _ (List.mem_append_right _ (List.mem_append_left _ (List.mem_of_getElem? (l := wsC_24) (i := 15) rfl)))))))))))))))))))))))))
theorem wsCw_616 : (.instanceMethod yX5_part : Cond) ∈ wsC := List.mem_append_right _ (List.mem_append_right _ (List.mem_append_right _ (List.mem_append_right _ (List.mem_append_right _ (List.mem_append_right _ (List.mem_append_right _ (List.mem_append_right _ (List.mem_append_right _ (List.mem_append_right _ (List.mem_append_right _ (List.mem_append_right _ (List.mem_append_right _ (List.mem_append_right _ (List.mem_append_right _ (List.mem_append_right _ (List.mem_append_right _ (List.mem_append_right _ (List.mem_append_right _ (List.mem_append_right _ (List.mem_append_right _ (List.mem_append_right _ (List.mem_append_right _ (List.mem_append_right _ (List.mem_append_left _ (List.mem_of_getElem? (l := wsC_24) (i := 16) rfl)))))))))))))))))))))))))
theorem wsCw_617 : (.selects RX5 yX5_part yX5_part : Cond) ∈ wsC := List.mem_append_right _ (List.mem_append_right _ (List.mem_append_right _ (List.mem_append_right _ (List.mem_append_right _ (List.mem_append_right _ (List.mem_append_right _ (List.mem_append_right _ (List.mem_append_right _ (List.mem_append_right _ (List.mem_append_right _ (List.mem_append_right _ (List.mem_append_right _ (List.mem_append_right _ (List.mem_append_right _ (List.mem_append_right _ (List.mem_append_right _ (List.mem_append_right _ (List.mem_append_right _ (List.mem_append_right _ (List.mem_append_right _ (List.mem_append_right _ (List.mem_append_right _ (List.mem_append_right _ (List.mem_append_left _ (List.mem_of_getElem? (l := wsC_24) (i := 17) rfl)))))))))))))))))))))))))
theorem wsCw_618 : (.code yX5_part cX5_part 2 (some .long) : Cond) ∈ wsC := List.mem_append_right _ (List.mem_append_right _ (List.mem_append_right _ (List.mem_append_right _ (List.mem_append_right _ (List.mem_append_right _ (List.mem_append_right _ (List.mem_append_right _ (List.mem_append_right _ (List.mem_append_right _ (List.mem_append_right _ (List.mem_append_right _ (List.mem_append_right _ (List.mem_append_right _ (List.mem_append_right _ (List.mem_append_right _ (List.mem_append_right _ (List.mem_append_right _ (List.mem_append_right _ (List.mem_append_right _ (List.mem_append_right _ (List.mem_append_right _ (List.mem_append_right _ (List.mem_append_right _ (List.mem_append_left _ (List.mem_of_getElem? (l := wsC_24) (i := 18) rfl)))))))))))))))))))))))))
theorem wsCw_619 : (.fieldLink RX11 235 "MillstreamPayments$Exchange" "advices" "LMillstreamPayments$Advices;" : Cond) ∈ wsC := List.mem_append_right _ (List.mem_append_right _ (List.mem_append_right _ (List.mem_append_right _ (List.mem_append_right _ (List.mem_append_right _ (List.mem_append_right _ (List.mem_append_right _ (List.mem_append_right _ (List.mem_append_right _ (List.mem_append_right _ (List.mem_append_right _ (List.mem_append_right _ (List.mem_append_right _ (List.mem_append_right _ (List.mem_append_right _ (List.mem_append_right _ (List.mem_append_right _ (List.mem_append_right _ (List.mem_append_right _ (List.mem_append_right _ (List.mem_append_right _ (List.mem_append_right _ (List.mem_append_right _ (List.mem_append_left _ (List.mem_of_getElem? (l := wsC_24) (i := 19) rfl)))))))))))))))))))))))))
theorem wsCw_620 : (.methodLink RX11 239 yX1_takeNext : Cond) ∈ wsC := List.mem_append_right _ (List.mem_append_right _ (List.mem_append_right _ (List.mem_append_right _ (List.mem_append_right _ (List.mem_append_right _ (List.mem_append_right _ (List.mem_append_right _ (List.mem_append_right _ (List.mem_append_right _ (List.mem_append_right _ (List.mem_append_right _ (List.mem_append_right _ (List.mem_append_right _ (List.mem_append_right _ (List.mem_append_right _ (List.mem_append_right _ (List.mem_append_right _ (List.mem_append_right _ (List.mem_append_right _ (List.mem_append_right _ (List.mem_append_right _ (List.mem_append_right _ (List.mem_append_right _ (List.mem_append_left _ (List.mem_of_getElem? (l := wsC_24) (i := 20) rfl)))))))))))))))))))))))))
theorem wsCw_621 : (.instanceMethod yX1_takeNext : Cond) ∈ wsC := List.mem_append_right _ (List.mem_append_right _ (List.mem_append_right _ (List.mem_append_right _ (List.mem_append_right _ (List.mem_append_right _ (List.mem_append_right _ (List.mem_append_right _ (List.mem_append_right _ (List.mem_append_right _ (List.mem_append_right _ (List.mem_append_right _ (List.mem_append_right _ (List.mem_append_right _ (List.mem_append_right _ (List.mem_append_right _ (List.mem_append_right _ (List.mem_append_right _ (List.mem_append_right _ (List.mem_append_right _ (List.mem_append_right _ (List.mem_append_right _ (List.mem_append_right _ (List.mem_append_right _ (List.mem_append_left _ (List.mem_of_getElem? (l := wsC_24) (i := 21) rfl)))))))))))))))))))))))))
theorem wsCw_622 : (.selects RX1 yX1_takeNext yX1_takeNext : Cond) ∈ wsC := List.mem_append_right _ (List.mem_append_right _ (List.mem_append_right _ (List.mem_append_right _ (List.mem_append_right _ (List.mem_append_right _ (List.mem_append_right _ (List.mem_append_right _ (List.mem_append_right _ (List.mem_append_right _ (List.mem_append_right _ (List.mem_append_right _ (List.mem_append_right _ (List.mem_append_right _ (List.mem_append_right _ (List.mem_append_right _ (List.mem_append_right _ (List.mem_append_right _ (List.mem_append_right _ (List.mem_append_right _ (List.mem_append_right _ (List.mem_append_right _ (List.mem_append_right _ (List.mem_append_right _ (List.mem_append_left _ (List.mem_of_getElem? (l := wsC_24) (i := 22) rfl)))))))))))))))))))))))))
theorem wsCw_623 : (.code yX1_takeNext cX1_takeNext 3 (some .int) : Cond) ∈ wsC := List.mem_append_right _ (List.mem_append_right _ (List.mem_append_right _ (List.mem_append_right _ (List.mem_append_right _ (List.mem_append_right _ (List.mem_append_right _ (List.mem_append_right _ (List.mem_append_right _ (List.mem_append_right _ (List.mem_append_right _ (List.mem_append_right _ (List.mem_append_right _ (List.mem_append_right _ (List.mem_append_right _ (List.mem_append_right _ (List.mem_append_right _ (List.mem_append_right _ (List.mem_append_right _ (List.mem_append_right _ (List.mem_append_right _ (List.mem_append_right _ (List.mem_append_right _ (List.mem_append_right _ (List.mem_append_left _ (List.mem_of_getElem? (l := wsC_24) (i := 23) rfl)))))))))))))))))))))))))
theorem wsCw_624 : (.methodLink RX11 244 yX1_mostTaken : Cond) ∈ wsC := List.mem_append_right _ (List.mem_append_right _ (List.mem_append_right _ (List.mem_append_right _ (List.mem_append_right _ (List.mem_append_right _ (List.mem_append_right _ (List.mem_append_right _ (List.mem_append_right _ (List.mem_append_right _ (List.mem_append_right _ (List.mem_append_right _ (List.mem_append_right _ (List.mem_append_right _ (List.mem_append_right _ (List.mem_append_right _ (List.mem_append_right _ (List.mem_append_right _ (List.mem_append_right _ (List.mem_append_right _ (List.mem_append_right _ (List.mem_append_right _ (List.mem_append_right _ (List.mem_append_right _ (List.mem_append_left _ (List.mem_of_getElem? (l := wsC_24) (i := 24) rfl)))))))))))))))))))))))))
theorem wsCw_625 : (.instanceMethod yX1_mostTaken : Cond) ∈ wsC := List.mem_append_right _ (List.mem_append_right _ (List.mem_append_right _ (List.mem_append_right _ (List.mem_append_right _ (List.mem_append_right _ (List.mem_append_right _ (List.mem_append_right _ (List.mem_append_right _ (List.mem_append_right _ (List.mem_append_right _ (List.mem_append_right _ (List.mem_append_right _ (List.mem_append_right _ (List.mem_append_right _ (List.mem_append_right _ (List.mem_append_right _ (List.mem_append_right _ (List.mem_append_right _ (List.mem_append_right _ (List.mem_append_right _ (List.mem_append_right _ (List.mem_append_right _ (List.mem_append_right _ (List.mem_append_right _ (List.mem_append_left _ (List.mem_of_getElem? (l := wsC_25) (i := 0) rfl))))))))))))))))))))))))))
theorem wsCw_626 : (.selects RX1 yX1_mostTaken yX1_mostTaken : Cond) ∈ wsC := List.mem_append_right _ (List.mem_append_right _ (List.mem_append_right _ (List.mem_append_right _ (List.mem_append_right _ (List.mem_append_right _ (List.mem_append_right _ (List.mem_append_right _ (List.mem_append_right _ (List.mem_append_right _ (List.mem_append_right _ (List.mem_append_right _ (List.mem_append_right _ (List.mem_append_right _ (List.mem_append_right _ (List.mem_append_right _ (List.mem_append_right _ (List.mem_append_right _ (List.mem_append_right _ (List.mem_append_right _ (List.mem_append_right _ (List.mem_append_right _ (List.mem_append_right _ (List.mem_append_right _ (List.mem_append_right _ (List.mem_append_left _ (List.mem_of_getElem? (l := wsC_25) (i := 1) rfl))))))))))))))))))))))))))
theorem wsCw_627 : (.code yX1_mostTaken cX1_mostTaken 2 (some .int) : Cond) ∈ wsC := List.mem_append_right _ (List.mem_append_right _ (List.mem_append_right _ (List.mem_append_right _ (List.mem_append_right _ (List.mem_append_right _ (List.mem_append_right _ (List.mem_append_right _ (List.mem_append_right _ (List.mem_append_right _ (List.mem_append_right _ (List.mem_append_right _ (List.mem_append_right _ (List.mem_append_right _ (List.mem_append_right _ (List.mem_append_right _ (List.mem_append_right _ (List.mem_append_right _ (List.mem_append_right _ (List.mem_append_right _ (List.mem_append_right _ (List.mem_append_right _ (List.mem_append_right _ (List.mem_append_right _ (List.mem_append_right _ (List.mem_append_left _ (List.mem_of_getElem? (l := wsC_25) (i := 2) rfl))))))))))))))))))))))))))
theorem wsCw_628 : (.methodLink RX11 247 yX1_startFrom : Cond) ∈ wsC := List.mem_append_right _ (List.mem_append_right _ (List.mem_append_right _ (List.mem_append_right _ (List.mem_append_right _ (List.mem_append_right _ (List.mem_append_right _ (List.mem_append_right _ (List.mem_append_right _ (List.mem_append_right _ (List.mem_append_right _ (List.mem_append_right _ (List.mem_append_right _ (List.mem_append_right _ (List.mem_append_right _ (List.mem_append_right _ (List.mem_append_right _ (List.mem_append_right _ (List.mem_append_right _ (List.mem_append_right _ (List.mem_append_right _ (List.mem_append_right _ (List.mem_append_right _ (List.mem_append_right _ (List.mem_append_right _ (List.mem_append_left _ (List.mem_of_getElem? (l := wsC_25) (i := 3) rfl))))))))))))))))))))))))))
theorem wsCw_629 : (.instanceMethod yX1_startFrom : Cond) ∈ wsC := List.mem_append_right _ (List.mem_append_right _ (List.mem_append_right _ (List.mem_append_right _ (List.mem_append_right _ (List.mem_append_right _ (List.mem_append_right _ (List.mem_append_right _ (List.mem_append_right _ (List.mem_append_right _ (List.mem_append_right _ (List.mem_append_right _ (List.mem_append_right _ (List.mem_append_right _ (List.mem_append_right _ (List.mem_append_right _ (List.mem_append_right _ (List.mem_append_right _ (List.mem_append_right _ (List.mem_append_right _ (List.mem_append_right _ (List.mem_append_right _ (List.mem_append_right _ (List.mem_append_right _ (List.mem_append_right _ (List.mem_append_left _ (List.mem_of_getElem? (l := wsC_25) (i := 4) rfl))))))))))))))))))))))))))
theorem wsCw_630 : (.selects RX1 yX1_startFrom yX1_startFrom : Cond) ∈ wsC := List.mem_append_right _ (List.mem_append_right _ (List.mem_append_right _ (List.mem_append_right _ (List.mem_append_right _ (List.mem_append_right _ (List.mem_append_right _ (List.mem_append_right _ (List.mem_append_right _ (List.mem_append_right _ (List.mem_append_right _ (List.mem_append_right _ (List.mem_append_right _ (List.mem_append_right _ (List.mem_append_right _ (List.mem_append_right _ (List.mem_append_right _ (List.mem_append_right _ (List.mem_append_right _ (List.mem_append_right _ (List.mem_append_right _ (List.mem_append_right _ (List.mem_append_right _ (List.mem_append_right _ (List.mem_append_right _ (List.mem_append_left _ (List.mem_of_getElem? (l := wsC_25) (i := 5) rfl))))))))))))))))))))))))))
theorem wsCw_631 : (.code yX1_startFrom cX1_startFrom 3 (some .int) : Cond) ∈ wsC := List.mem_append_right _ (List.mem_append_right _ (List.mem_append_right _ (List.mem_append_right _ (List.mem_append_right _ (List.mem_append_right _ (List.mem_append_right _ (List.mem_append_right _ (List.mem_append_right _ (List.mem_append_right _ (List.mem_append_right _ (List.mem_append_right _ (List.mem_append_right _ (List.mem_append_right _ (List.mem_append_right _ (List.mem_append_right _ (List.mem_append_right _ (List.mem_append_right _ (List.mem_append_right _ (List.mem_append_right _ (List.mem_append_right _ (List.mem_append_right _ (List.mem_append_right _ (List.mem_append_right _ (List.mem_append_right _ (List.mem_append_left _ (List.mem_of_getElem? (l := wsC_25) (i := 6) rfl))))))))))))))))))))))))))
set_option maxRecDepth 100000 in
theorem wsC_good : wsC.all goodWord = true := by decide +kernel
theorem wsC_X0 {x : Cond} : ∀ w ∈ wsX00, w ∈ x :: wsC := fun w h => List.mem_cons_of_mem _ (List.mem_append_right _ (List.mem_append_right _ (List.mem_append_right _ (List.mem_append_right _ (List.mem_append_right _ (List.mem_append_right _ (List.mem_append_right _ (List.mem_append_right _ (List.mem_append_right _ (List.mem_append_right _ (List.mem_append_right _ (List.mem_append_right _ (List.mem_append_right _ (List.mem_append_right _ (List.mem_append_right _ (List.mem_append_right _ (List.mem_append_right _ (List.mem_append_right _ (List.mem_append_right _ (List.mem_append_right _ (List.mem_append_right _ (List.mem_append_right _ (List.mem_append_right _ (List.mem_append_right _ (List.mem_append_right _ (List.mem_append_right _ (List.mem_append_left _ (h))))))))))))))))))))))))))))
theorem wsC_X1 {x : Cond} : ∀ w ∈ wsX10, w ∈ x :: wsC := fun w h => List.mem_cons_of_mem _ (List.mem_append_right _ (List.mem_append_right _ (List.mem_append_right _ (List.mem_append_right _ (List.mem_append_right _ (List.mem_append_right _ (List.mem_append_right _ (List.mem_append_right _ (List.mem_append_right _ (List.mem_append_right _ (List.mem_append_right _ (List.mem_append_right _ (List.mem_append_right _ (List.mem_append_right _ (List.mem_append_right _ (List.mem_append_right _ (List.mem_append_right _ (List.mem_append_right _ (List.mem_append_right _ (List.mem_append_right _ (List.mem_append_right _ (List.mem_append_right _ (List.mem_append_right _ (List.mem_append_right _ (List.mem_append_right _ (List.mem_append_right _ (List.mem_append_right _ (List.mem_append_left _ (h)))))))))))))))))))))))))))))
theorem wsC_X2 {x : Cond} : ∀ w ∈ wsX20, w ∈ x :: wsC := fun w h => List.mem_cons_of_mem _ (List.mem_append_right _ (List.mem_append_right _ (List.mem_append_right _ (List.mem_append_right _ (List.mem_append_right _ (List.mem_append_right _ (List.mem_append_right _ (List.mem_append_right _ (List.mem_append_right _ (List.mem_append_right _ (List.mem_append_right _ (List.mem_append_right _ (List.mem_append_right _ (List.mem_append_right _ (List.mem_append_right _ (List.mem_append_right _ (List.mem_append_right _ (List.mem_append_right _ (List.mem_append_right _ (List.mem_append_right _ (List.mem_append_right _ (List.mem_append_right _ (List.mem_append_right _ (List.mem_append_right _ (List.mem_append_right _ (List.mem_append_right _ (List.mem_append_right _ (List.mem_append_right _ (List.mem_append_left _ (h))))))))))))))))))))))))))))))
theorem wsC_X3 {x : Cond} : ∀ w ∈ wsX30, w ∈ x :: wsC := fun w h => List.mem_cons_of_mem _ (List.mem_append_right _ (List.mem_append_right _ (List.mem_append_right _ (List.mem_append_right _ (List.mem_append_right _ (List.mem_append_right _ (List.mem_append_right _ (List.mem_append_right _ (List.mem_append_right _ (List.mem_append_right _ (List.mem_append_right _ (List.mem_append_right _ (List.mem_append_right _ (List.mem_append_right _ (List.mem_append_right _ (List.mem_append_right _ (List.mem_append_right _ (List.mem_append_right _ (List.mem_append_right _ (List.mem_append_right _ (List.mem_append_right _ (List.mem_append_right _ (List.mem_append_right _ (List.mem_append_right _ (List.mem_append_right _ (List.mem_append_right _ (List.mem_append_right _ (List.mem_append_right _ (List.mem_append_right _ (List.mem_append_left _ (h)))))))))))))))))))))))))))))))
theorem wsC_X4 {x : Cond} : ∀ w ∈ wsX40, w ∈ x :: wsC := fun w h => List.mem_cons_of_mem _ (List.mem_append_right _ (List.mem_append_right _ (List.mem_append_right _ (List.mem_append_right _ (List.mem_append_right _ (List.mem_append_right _ (List.mem_append_right _ (List.mem_append_right _ (List.mem_append_right _ (List.mem_append_right _ (List.mem_append_right _ (List.mem_append_right _ (List.mem_append_right _ (List.mem_append_right _ (List.mem_append_right _ (List.mem_append_right _ (List.mem_append_right _ (List.mem_append_right _ (List.mem_append_right _ (List.mem_append_right _ (List.mem_append_right _ (List.mem_append_right _ (List.mem_append_right _ (List.mem_append_right _ (List.mem_append_right _ (List.mem_append_right _ (List.mem_append_right _ (List.mem_append_right _ (List.mem_append_right _ (List.mem_append_right _ (List.mem_append_left _ (h))))))))))))))))))))))))))))))))
theorem wsC_X5 {x : Cond} : ∀ w ∈ wsX50, w ∈ x :: wsC := fun w h => List.mem_cons_of_mem _ (List.mem_append_right _ (List.mem_append_right _ (List.mem_append_right _ (List.mem_append_right _ (List.mem_append_right _ (List.mem_append_right _ (List.mem_append_right _ (List.mem_append_right _ (List.mem_append_right _ (List.mem_append_right _ (List.mem_append_right _ (List.mem_append_right _ (List.mem_append_right _ (List.mem_append_right _ (List.mem_append_right _ (List.mem_append_right _ (List.mem_append_right _ (List.mem_append_right _ (List.mem_append_right _ (List.mem_append_right _ (List.mem_append_right _ (List.mem_append_right _ (List.mem_append_right _ (List.mem_append_right _ (List.mem_append_right _ (List.mem_append_right _ (List.mem_append_right _ (List.mem_append_right _ (List.mem_append_right _ (List.mem_append_right _ (List.mem_append_right _ (List.mem_append_left _ (h)))))))))))))))))))))))))))))))))
theorem wsC_X6 {x : Cond} : ∀ w ∈ wsX60, w ∈ x :: wsC := fun w h => List.mem_cons_of_mem _ (List.mem_append_right _ (List.mem_append_right _ (List.mem_append_right _ (List.mem_append_right _ (List.mem_append_right _ (List.mem_append_right _ (List.mem_append_right _ (List.mem_append_right _ (List.mem_append_right _ (List.mem_append_right _ (List.mem_append_right _ (List.mem_append_right _ (List.mem_append_right _ (List.mem_append_right _ (List.mem_append_right _ (List.mem_append_right _ (List.mem_append_right _ (List.mem_append_right _ (List.mem_append_right _ (List.mem_append_right _ (List.mem_append_right _ (List.mem_append_right _ (List.mem_append_right _ (List.mem_append_right _ (List.mem_append_right _ (List.mem_append_right _ (List.mem_append_right _ (List.mem_append_right _ (List.mem_append_right _ (List.mem_append_right _ (List.mem_append_right _ (List.mem_append_right _ (List.mem_append_left _ (h))))))))))))))))))))))))))))))))))
theorem wsC_X7 {x : Cond} : ∀ w ∈ wsX70, w ∈ x :: wsC := fun w h => List.mem_cons_of_mem _ (List.mem_append_right _ (List.mem_append_right _ (List.mem_append_right _ (List.mem_append_right _ (List.mem_append_right _ (List.mem_append_right _ (List.mem_append_right _ (List.mem_append_right _ (List.mem_append_right _ (List.mem_append_right _ (List.mem_append_right _ (List.mem_append_right _ (List.mem_append_right _ (List.mem_append_right _ (List.mem_append_right _ (List.mem_append_right _ (List.mem_append_right _ (List.mem_append_right _ (List.mem_append_right _ (List.mem_append_right _ (List.mem_append_right _ (List.mem_append_right _ (List.mem_append_right _ (List.mem_append_right _ (List.mem_append_right _ (List.mem_append_right _ (List.mem_append_right _ (List.mem_append_right _ (List.mem_append_right _ (List.mem_append_right _ (List.mem_append_right _ (List.mem_append_right _ (List.mem_append_right _ (List.mem_append_left _ (h)))))))))))))))))))))))))))))))))))
theorem wsC_X8 {x : Cond} : ∀ w ∈ wsX80, w ∈ x :: wsC := fun w h => List.mem_cons_of_mem _ (List.mem_append_right _ (List.mem_append_right _ (List.mem_append_right _ (List.mem_append_right _ (List.mem_append_right _ (List.mem_append_right _ (List.mem_append_right _ (List.mem_append_right _ (List.mem_append_right _ (List.mem_append_right _ (List.mem_append_right _ (List.mem_append_right _ (List.mem_append_right _ (List.mem_append_right _ (List.mem_append_right _ (List.mem_append_right _ (List.mem_append_right _ (List.mem_append_right _ (List.mem_append_right _ (List.mem_append_right _ (List.mem_append_right _ (List.mem_append_right _ (List.mem_append_right _ (List.mem_append_right _ (List.mem_append_right _ (List.mem_append_right _ (List.mem_append_right _ (List.mem_append_right _ (List.mem_append_right _ (List.mem_append_right _ (List.mem_append_right _ (List.mem_append_right _ (List.mem_append_right _ (List.mem_append_right _ (List.mem_append_left _ (h))))))))))))))))))))))))))))))))))))
theorem wsC_X9 {x : Cond} : ∀ w ∈ wsX90, w ∈ x :: wsC := fun w h => List.mem_cons_of_mem _ (List.mem_append_right _ (List.mem_append_right _ (List.mem_append_right _ (List.mem_append_right _ (List.mem_append_right _ (List.mem_append_right _ (List.mem_append_right _ (List.mem_append_right _ (List.mem_append_right _ (List.mem_append_right _ (List.mem_append_right _ (List.mem_append_right _ (List.mem_append_right _ (List.mem_append_right _ (List.mem_append_right _ (List.mem_append_right _ (List.mem_append_right _ (List.mem_append_right _ (List.mem_append_right _ (List.mem_append_right _ (List.mem_append_right _ (List.mem_append_right _ (List.mem_append_right _ (List.mem_append_right _ (List.mem_append_right _ (List.mem_append_right _ (List.mem_append_right _ (List.mem_append_right _ (List.mem_append_right _ (List.mem_append_right _ (List.mem_append_right _ (List.mem_append_right _ (List.mem_append_right _ (List.mem_append_right _ (List.mem_append_right _ (List.mem_append_left _ (h)))))))))))))))))))))))))))))))))))))
theorem wsC_X10 {x : Cond} : ∀ w ∈ wsX100, w ∈ x :: wsC := fun w h => List.mem_cons_of_mem _ (List.mem_append_right _ (List.mem_append_right _ (List.mem_append_right _ (List.mem_append_right _ (List.mem_append_right _ (List.mem_append_right _ (List.mem_append_right _ (List.mem_append_right _ (List.mem_append_right _ (List.mem_append_right _ (List.mem_append_right _ (List.mem_append_right _ (List.mem_append_right _ (List.mem_append_right _ (List.mem_append_right _ (List.mem_append_right _ (List.mem_append_right _ (List.mem_append_right _ (List.mem_append_right _ (List.mem_append_right _ (List.mem_append_right _ (List.mem_append_right _ (List.mem_append_right _ (List.mem_append_right _ (List.mem_append_right _ (List.mem_append_right _ (List.mem_append_right _ (List.mem_append_right _ (List.mem_append_right _ (List.mem_append_right _ (List.mem_append_right _ (List.mem_append_right _ (List.mem_append_right _ (List.mem_append_right _ (List.mem_append_right _ (List.mem_append_right _ (List.mem_append_left _ (h))))))))))))))))))))))))))))))))))))))
theorem wsC_X11 {x : Cond} : ∀ w ∈ wsX110, w ∈ x :: wsC := fun w h => List.mem_cons_of_mem _ (List.mem_append_right _ (List.mem_append_right _ (List.mem_append_right _ (List.mem_append_right _ (List.mem_append_right _ (List.mem_append_right _ (List.mem_append_right _ (List.mem_append_right _ (List.mem_append_right _ (List.mem_append_right _ (List.mem_append_right _ (List.mem_append_right _ (List.mem_append_right _ (List.mem_append_right _ (List.mem_append_right _ (List.mem_append_right _ (List.mem_append_right _ (List.mem_append_right _ (List.mem_append_right _ (List.mem_append_right _ (List.mem_append_right _ (List.mem_append_right _ (List.mem_append_right _ (List.mem_append_right _ (List.mem_append_right _ (List.mem_append_right _ (List.mem_append_right _ (List.mem_append_right _ (List.mem_append_right _ (List.mem_append_right _ (List.mem_append_right _ (List.mem_append_right _ (List.mem_append_right _ (List.mem_append_right _ (List.mem_append_right _ (List.mem_append_right _ (List.mem_append_right _ (List.mem_append_left _ (h)))))))))))))))))))))))))))))))))))))))
theorem wsC_Jx4a65c {x : Cond} : ∀ w ∈ wsJx4a65c0, w ∈ x :: wsC := fun w h => List.mem_cons_of_mem _ (List.mem_append_right _ (List.mem_append_right _ (List.mem_append_right _ (List.mem_append_right _ (List.mem_append_right _ (List.mem_append_right _ (List.mem_append_right _ (List.mem_append_right _ (List.mem_append_right _ (List.mem_append_right _ (List.mem_append_right _ (List.mem_append_right _ (List.mem_append_right _ (List.mem_append_right _ (List.mem_append_right _ (List.mem_append_right _ (List.mem_append_right _ (List.mem_append_right _ (List.mem_append_right _ (List.mem_append_right _ (List.mem_append_right _ (List.mem_append_right _ (List.mem_append_right _ (List.mem_append_right _ (List.mem_append_right _ (List.mem_append_right _ (List.mem_append_right _ (List.mem_append_right _ (List.mem_append_right _ (List.mem_append_right _ (List.mem_append_right _ (List.mem_append_right _ (List.mem_append_right _ (List.mem_append_right _ (List.mem_append_right _ (List.mem_append_right _ (List.mem_append_right _ (List.mem_append_right _ (List.mem_append_left _ (h))))))))))))))))))))))))))))))))))))))))
theorem wsC_vio {x : Cond} : ∀ w ∈ ((vx_atS RX11 217 "java/lang/IndexOutOfBoundsException" ["java/lang/RuntimeException", "java/lang/Exception"]).filter goodWord), w ∈ x :: wsC := fun w h => List.mem_cons_of_mem _ (List.mem_append_right _ (List.mem_append_right _ (List.mem_append_right _ (List.mem_append_right _ (List.mem_append_right _ (List.mem_append_right _ (List.mem_append_right _ (List.mem_append_right _ (List.mem_append_right _ (List.mem_append_right _ (List.mem_append_right _ (List.mem_append_right _ (List.mem_append_right _ (List.mem_append_right _ (List.mem_append_right _ (List.mem_append_right _ (List.mem_append_right _ (List.mem_append_right _ (List.mem_append_right _ (List.mem_append_right _ (List.mem_append_right _ (List.mem_append_right _ (List.mem_append_right _ (List.mem_append_right _ (List.mem_append_right _ (List.mem_append_right _ (List.mem_append_right _ (List.mem_append_right _ (List.mem_append_right _ (List.mem_append_right _ (List.mem_append_right _ (List.mem_append_right _ (List.mem_append_right _ (List.mem_append_right _ (List.mem_append_right _ (List.mem_append_right _ (List.mem_append_right _ (List.mem_append_right _ (List.mem_append_right _ (List.mem_append_left _ (h)))))))))))))))))))))))))))))))))))))))))
theorem wsC_via {x : Cond} : ∀ w ∈ ((vx_atS RX11 256 "java/lang/IllegalArgumentException" ["java/lang/RuntimeException", "java/lang/Exception"]).filter goodWord), w ∈ x :: wsC := fun w h => List.mem_cons_of_mem _ (List.mem_append_right _ (List.mem_append_right _ (List.mem_append_right _ (List.mem_append_right _ (List.mem_append_right _ (List.mem_append_right _ (List.mem_append_right _ (List.mem_append_right _ (List.mem_append_right _ (List.mem_append_right _ (List.mem_append_right _ (List.mem_append_right _ (List.mem_append_right _ (List.mem_append_right _ (List.mem_append_right _ (List.mem_append_right _ (List.mem_append_right _ (List.mem_append_right _ (List.mem_append_right _ (List.mem_append_right _ (List.mem_append_right _ (List.mem_append_right _ (List.mem_append_right _ (List.mem_append_right _ (List.mem_append_right _ (List.mem_append_right _ (List.mem_append_right _ (List.mem_append_right _ (List.mem_append_right _ (List.mem_append_right _ (List.mem_append_right _ (List.mem_append_right _ (List.mem_append_right _ (List.mem_append_right _ (List.mem_append_right _ (List.mem_append_right _ (List.mem_append_right _ (List.mem_append_right _ (List.mem_append_right _ (List.mem_append_right _ (List.mem_append_left _ (h))))))))))))))))))))))))))))))))))))))))))
theorem wsC_vis {x : Cond} : ∀ w ∈ ((vx_atS RX11 263 "java/lang/IllegalStateException" ["java/lang/RuntimeException", "java/lang/Exception"]).filter goodWord), w ∈ x :: wsC := fun w h => List.mem_cons_of_mem _ (List.mem_append_right _ (List.mem_append_right _ (List.mem_append_right _ (List.mem_append_right _ (List.mem_append_right _ (List.mem_append_right _ (List.mem_append_right _ (List.mem_append_right _ (List.mem_append_right _ (List.mem_append_right _ (List.mem_append_right _ (List.mem_append_right _ (List.mem_append_right _ (List.mem_append_right _ (List.mem_append_right _ (List.mem_append_right _ (List.mem_append_right _ (List.mem_append_right _ (List.mem_append_right _ (List.mem_append_right _ (List.mem_append_right _ (List.mem_append_right _ (List.mem_append_right _ (List.mem_append_right _ (List.mem_append_right _ (List.mem_append_right _ (List.mem_append_right _ (List.mem_append_right _ (List.mem_append_right _ (List.mem_append_right _ (List.mem_append_right _ (List.mem_append_right _ (List.mem_append_right _ (List.mem_append_right _ (List.mem_append_right _ (List.mem_append_right _ (List.mem_append_right _ (List.mem_append_right _ (List.mem_append_right _ (List.mem_append_right _ (List.mem_append_right _ (h))))))))))))))))))))))))))))))))))))))))))
abbrev vJxa1e45_init_da8c8 : List Cond := .code yJxa1e45_init_da8c8 cJxa1e45_init_da8c8 1 none :: wsC
abbrev vJxc12de_init_da8c8 : List Cond := .code yJxc12de_init_da8c8 cJxc12de_init_da8c8 1 none :: wsC
abbrev vJx4a65c_init_da8c8 : List Cond := .code yJx4a65c_init_da8c8 cJx4a65c_init_da8c8 1 none :: wsC
abbrev vX3_init : List Cond := .code yX3_init cX3_init 1 none :: wsC
abbrev vX9_init : List Cond := .code yX9_init cX9_init 2 none :: wsC
abbrev vX9_fill : List Cond := .code yX9_fill cX9_fill 4 none :: wsC
abbrev vX0_init : List Cond := .code yX0_init cX0_init 1 none :: wsC
abbrev vX11_accountSlot : List Cond := .code yX11_accountSlot cX11_accountSlot 2 (some .int) :: wsC
abbrev vX9_at : List Cond := .code yX9_at cX9_at 2 (some .long) :: wsC
abbrev vX0_balanceOf : List Cond := .code yX0_balanceOf cX0_balanceOf 3 (some .long) :: wsC
abbrev vX0_paidOf : List Cond := .code yX0_paidOf cX0_paidOf 2 (some .long) :: wsC
abbrev vX9_put : List Cond := .code yX9_put cX9_put 4 none :: wsC
abbrev vX0_changeLine : List Cond := .code yX0_changeLine cX0_changeLine 6 (some .int) :: wsC
abbrev vX0_changeLimit : List Cond := .code yX0_changeLimit cX0_changeLimit 4 (some .int) :: wsC
abbrev vX9_add : List Cond := .code yX9_add cX9_add 4 none :: wsC
abbrev vX5_init : List Cond := .code yX5_init cX5_init 7 none :: wsC
abbrev vJx4a65c_size_8abf5 : List Cond := .code yJx4a65c_size_8abf5 cJx4a65c_size_8abf5 1 (some .int) :: wsC
abbrev vJ8_hugeLength_7cf53 : List Cond := .code yJ8_hugeLength_7cf53 cJ8_hugeLength_7cf53 3 (some .int) :: wsC
abbrev vJ8_newLength_cabcc : List Cond := .code yJ8_newLength_cabcc cJ8_newLength_cabcc 4 (some .int) :: wsC
abbrev vJ7_copyOf_6403c : List Cond := .code yJ7_copyOf_6403c cJ7_copyOf_6403c 4 (some (.array (.object "java/lang/Object"))) :: wsC
abbrev vJ7_copyOf_1904c : List Cond := .code yJ7_copyOf_1904c cJ7_copyOf_1904c 2 (some (.array (.object "java/lang/Object"))) :: wsC
abbrev vJx4a65c_grow_92f84 : List Cond := .code yJx4a65c_grow_92f84 cJx4a65c_grow_92f84 4 (some (.array (.object "java/lang/Object"))) :: wsC
abbrev vJx4a65c_grow_d5877 : List Cond := .code yJx4a65c_grow_d5877 cJx4a65c_grow_d5877 1 (some (.array (.object "java/lang/Object"))) :: wsC
abbrev vJx4a65c_add_72be8 : List Cond := .code yJx4a65c_add_72be8 cJx4a65c_add_72be8 4 none :: wsC
abbrev vJx4a65c_add_9ea2d : List Cond := .code yJx4a65c_add_9ea2d cJx4a65c_add_9ea2d 2 (some .boolean) :: wsC
abbrev vX3_keep : List Cond := .code yX3_keep cX3_keep 2 none :: wsC
abbrev vX0_move : List Cond := .code yX0_move cX0_move 7 none :: wsC
abbrev vX11_pairSlot : List Cond := .code yX11_pairSlot cX11_pairSlot 3 (some .int) :: wsC
abbrev vX0_pay : List Cond := .code yX0_pay cX0_pay 3 none :: wsC
abbrev vX0_isTooLowBy : List Cond := .code yX0_isTooLowBy cX0_isTooLowBy 4 (some .boolean) :: wsC
abbrev vX0_isPassedBy : List Cond := .code yX0_isPassedBy cX0_isPassedBy 6 (some .boolean) :: wsC
abbrev vX0_beginDay : List Cond := .code yX0_beginDay cX0_beginDay 1 none :: wsC
abbrev vX1_init : List Cond := .code yX1_init cX1_init 1 none :: wsC
abbrev vX1_tell : List Cond := .code yX1_tell cX1_tell 3 none :: wsC
abbrev vX1_takeNext : List Cond := .code yX1_takeNext cX1_takeNext 3 (some .int) :: wsC
abbrev vX1_mostTaken : List Cond := .code yX1_mostTaken cX1_mostTaken 2 (some .int) :: wsC
abbrev vX1_startFrom : List Cond := .code yX1_startFrom cX1_startFrom 3 (some .int) :: wsC
abbrev vX2_init : List Cond := .code yX2_init cX2_init 1 none :: wsC
abbrev vX2_clear : List Cond := .code yX2_clear cX2_clear 1 none :: wsC
abbrev vX9_isSet : List Cond := .code yX9_isSet cX9_isSet 2 (some .boolean) :: wsC
abbrev vX2_has : List Cond := .code yX2_has cX2_has 2 (some .boolean) :: wsC
abbrev vX9_mark : List Cond := .code yX9_mark cX9_mark 3 none :: wsC
abbrev vX2_count : List Cond := .code yX2_count cX2_count 4 none :: wsC
abbrev vX2_put : List Cond := .code yX2_put cX2_put 2 none :: wsC
abbrev vX2_drop : List Cond := .code yX2_drop cX2_drop 2 none :: wsC
abbrev vX2_lowestTooLow : List Cond := .code yX2_lowestTooLow cX2_lowestTooLow 5 (some .int) :: wsC
abbrev vX2_passesLimit : List Cond := .code yX2_passesLimit cX2_passesLimit 6 (some .boolean) :: wsC
abbrev vX2_isWithinBounds : List Cond := .code yX2_isWithinBounds cX2_isWithinBounds 5 (some .boolean) :: wsC
abbrev vX3_count : List Cond := .code yX3_count cX3_count 1 (some .int) :: wsC
abbrev vJ3_checkIndex_8e157 : List Cond := .code yJ3_checkIndex_8e157 cJ3_checkIndex_8e157 3 (some .int) :: wsC
abbrev vJ15_checkIndex_7cf53 : List Cond := .code yJ15_checkIndex_7cf53 cJ15_checkIndex_7cf53 2 (some .int) :: wsC
abbrev vJx4a65c_elementData_915e3 : List Cond := .code yJx4a65c_elementData_915e3 cJx4a65c_elementData_915e3 2 (some (.object "java/lang/Object")) :: wsC
abbrev vJx4a65c_get_915e3 : List Cond := .code yJx4a65c_get_915e3 cJx4a65c_get_915e3 2 (some (.object "java/lang/Object")) :: wsC
abbrev vX3_find : List Cond := .code yX3_find cX3_find 2 (some (.object "MillstreamPayments$Entry")) :: wsC
abbrev vX3_sumOf : List Cond := .code yX3_sumOf cX3_sumOf 7 (some .long) :: wsC
abbrev vX4_init : List Cond := .code yX4_init cX4_init 1 none :: wsC
abbrev vX4_changeHoliday : List Cond := .code yX4_changeHoliday cX4_changeHoliday 4 none :: wsC
abbrev vX4_isOpen : List Cond := .code yX4_isOpen cX4_isOpen 4 (some .boolean) :: wsC
abbrev vX4_isOpenToday : List Cond := .code yX4_isOpenToday cX4_isOpenToday 2 (some .boolean) :: wsC
abbrev vX5_part : List Cond := .code yX5_part cX5_part 2 (some .long) :: wsC
abbrev vX8_init : List Cond := .code yX8_init cX8_init 1 none :: wsC
abbrev vX6_init : List Cond := .code yX6_init cX6_init 1 none :: wsC
abbrev vX7_init : List Cond := .code yX7_init cX7_init 3 none :: wsC
abbrev vX8_open : List Cond := .code yX8_open cX8_open 3 (some (.object "MillstreamPayments$Payment")) :: wsC
abbrev vX6_letEnter : List Cond := .code yX6_letEnter cX6_letEnter 2 none :: wsC
abbrev vX6_bringIn : List Cond := .code yX6_bringIn cX6_bringIn 3 (some .int) :: wsC
abbrev vX10_init : List Cond := .code yX10_init cX10_init 5 none :: wsC
abbrev vX10_arrange : List Cond := .code yX10_arrange cX10_arrange 6 none :: wsC
abbrev vX6_termsBack : List Cond := .code yX6_termsBack cX6_termsBack 3 (some (.object "MillstreamPayments$Terms")) :: wsC
abbrev vX8_count : List Cond := .code yX8_count cX8_count 1 (some .int) :: wsC
abbrev vX8_find : List Cond := .code yX8_find cX8_find 2 (some (.object "MillstreamPayments$Payment")) :: wsC
abbrev vX6_holdPaymentsFor : List Cond := .code yX6_holdPaymentsFor cX6_holdPaymentsFor 5 (some .int) :: wsC
abbrev vX7_isIn : List Cond := .code yX7_isIn cX7_isIn 3 (some .boolean) :: wsC
abbrev vX7_isBehind : List Cond := .code yX7_isBehind cX7_isBehind 2 (some .boolean) :: wsC
abbrev vX8_nextQueued : List Cond := .code yX8_nextQueued cX8_nextQueued 7 (some (.object "MillstreamPayments$Payment")) :: wsC
abbrev vX6_mayMove : List Cond := .code yX6_mayMove cX6_mayMove 2 (some .boolean) :: wsC
abbrev vX6_settleBatch : List Cond := .code yX6_settleBatch cX6_settleBatch 4 (some .int) :: wsC
abbrev vX6_settleFirst : List Cond := .code yX6_settleFirst cX6_settleFirst 5 (some .int) :: wsC
abbrev vX6_runQueues : List Cond := .code yX6_runQueues cX6_runQueues 6 (some .int) :: wsC
abbrev vX6_lastInBatch : List Cond := .code yX6_lastInBatch cX6_lastInBatch 7 (some (.object "MillstreamPayments$Payment")) :: wsC
abbrev vX6_nextToTakeOut : List Cond := .code yX6_nextToTakeOut cX6_nextToTakeOut 6 (some (.object "MillstreamPayments$Payment")) :: wsC
abbrev vX6_settleMost : List Cond := .code yX6_settleMost cX6_settleMost 5 (some .int) :: wsC
abbrev vX7_hasEnded : List Cond := .code yX7_hasEnded cX7_hasEnded 1 (some .boolean) :: wsC
abbrev vX7_giveBack : List Cond := .code yX7_giveBack cX7_giveBack 1 (some .int) :: wsC
abbrev vX6_giveBackWhatMayNotStay : List Cond := .code yX6_giveBackWhatMayNotStay cX6_giveBackWhatMayNotStay 3 none :: wsC
abbrev vX8_feesOf : List Cond := .code yX8_feesOf cX8_feesOf 7 (some .int) :: wsC
abbrev vX6_charge : List Cond := .code yX6_charge cX6_charge 5 none :: wsC
abbrev vX6_chargeBanks : List Cond := .code yX6_chargeBanks cX6_chargeBanks 5 none :: wsC
abbrev vX6_letWaitingEnter : List Cond := .code yX6_letWaitingEnter cX6_letWaitingEnter 3 none :: wsC
abbrev vX6_closeDay : List Cond := .code yX6_closeDay cX6_closeDay 3 (some .int) :: wsC
abbrev vX10_isWayBackOf : List Cond := .code yX10_isWayBackOf cX10_isWayBackOf 2 (some .boolean) :: wsC
abbrev vX7_canBeLegWith : List Cond := .code yX7_canBeLegWith cX7_canBeLegWith 2 (some .boolean) :: wsC
abbrev vX8_isFull : List Cond := .code yX8_isFull cX8_isFull 1 (some .boolean) :: wsC
abbrev vX8_toldBy : List Cond := .code yX8_toldBy cX8_toldBy 3 (some (.object "MillstreamPayments$Payment")) :: wsC
abbrev vX8_keepMessage : List Cond := .code yX8_keepMessage cX8_keepMessage 4 none :: wsC
abbrev vX8_queuedAt : List Cond := .code yX8_queuedAt cX8_queuedAt 6 (some .int) :: wsC
abbrev vX10_isLike : List Cond := .code yX10_isLike cX10_isLike 2 (some .boolean) :: wsC
abbrev vX11_init : List Cond := .code yX11_init cX11_init 1 none :: wsC
abbrev vX11_needPlace : List Cond := .code yX11_needPlace cX11_needPlace 2 none :: wsC
abbrev vX11_needRange : List Cond := .code yX11_needRange cX11_needRange 3 none :: wsC
abbrev vX11_fund : List Cond := .code yX11_fund cX11_fund 4 (some .long) :: wsC
abbrev vX11_line : List Cond := .code yX11_line cX11_line 5 (some .int) :: wsC
abbrev vX11_needTwoBanks : List Cond := .code yX11_needTwoBanks cX11_needTwoBanks 2 none :: wsC
abbrev vX11_limit : List Cond := .code yX11_limit cX11_limit 6 (some .int) :: wsC
abbrev vX11_out : List Cond := .code yX11_out cX11_out 4 (some .boolean) :: wsC
abbrev vX11_holiday : List Cond := .code yX11_holiday cX11_holiday 4 (some .boolean) :: wsC
abbrev vX11_list : List Cond := .code yX11_list cX11_list 4 (some .int) :: wsC
abbrev vX11_needState : List Cond := .code yX11_needState cX11_needState 1 none :: wsC
abbrev vX11_send : List Cond := .code yX11_send cX11_send 14 (some .int) :: wsC
abbrev vX11_doubles : List Cond := .code yX11_doubles cX11_doubles 1 (some .int) :: wsC
abbrev vX11_needPayment : List Cond := .code yX11_needPayment cX11_needPayment 3 (some (.object "MillstreamPayments$Payment")) :: wsC
abbrev vX11_join : List Cond := .code yX11_join cX11_join 5 none :: wsC
abbrev vX11_withdraw : List Cond := .code yX11_withdraw cX11_withdraw 4 (some .int) :: wsC
abbrev vX11_release : List Cond := .code yX11_release cX11_release 5 (some .boolean) :: wsC
abbrev vX11_refuse : List Cond := .code yX11_refuse cX11_refuse 4 (some .int) :: wsC
abbrev vX11_offset : List Cond := .code yX11_offset cX11_offset 3 (some .int) :: wsC
abbrev vX11_recall : List Cond := .code yX11_recall cX11_recall 4 (some .int) :: wsC
abbrev vX11_answer : List Cond := .code yX11_answer cX11_answer 5 (some .int) :: wsC
abbrev vX11_endDay : List Cond := .code yX11_endDay cX11_endDay 2 (some .int) :: wsC
abbrev vX11_today : List Cond := .code yX11_today cX11_today 1 (some .int) :: wsC
abbrev vX11_account : List Cond := .code yX11_account cX11_account 3 (some .long) :: wsC
abbrev vX11_accountAnew : List Cond := .code yX11_accountAnew cX11_accountAnew 3 (some .long) :: wsC
abbrev vX11_paid : List Cond := .code yX11_paid cX11_paid 4 (some .long) :: wsC
abbrev vX11_payments : List Cond := .code yX11_payments cX11_payments 1 (some .int) :: wsC
abbrev vX11_stateOf : List Cond := .code yX11_stateOf cX11_stateOf 2 (some .int) :: wsC
abbrev vX11_queueAt : List Cond := .code yX11_queueAt cX11_queueAt 4 (some .int) :: wsC
abbrev vX11_entries : List Cond := .code yX11_entries cX11_entries 1 (some .int) :: wsC
abbrev vX11_entryAt : List Cond := .code yX11_entryAt cX11_entryAt 4 (some .long) :: wsC
abbrev vX11_advice : List Cond := .code yX11_advice cX11_advice 2 (some .int) :: wsC
abbrev vX11_again : List Cond := .code yX11_again cX11_again 3 (some .int) :: wsC
abbrev vJ9_max_7cf53 : List Cond := .code yJ9_max_7cf53 cJ9_max_7cf53 2 (some .int) :: wsC
abbrev vJ9_max_f86c9 : List Cond := .code yJ9_max_f86c9 cJ9_max_f86c9 4 (some .long) :: wsC
abbrev vJ9_min_7cf53 : List Cond := .code yJ9_min_7cf53 cJ9_min_7cf53 2 (some .int) :: wsC
theorem wsC_sub {x : Cond} : ∀ w ∈ wsC, w ∈ x :: wsC := fun w h => List.mem_cons_of_mem _ h
theorem lC_Jxc12de_7 {x : Cond} : Cond.fieldLink RJxc12de 7 RJxc12de "modCount" "I" ∈ x :: wsC := wsC_sub _ wsCw_3
theorem gC_Jxa1e45_init_da8c8 {x : Cond} : GoodIn (x :: wsC) vJxa1e45_init_da8c8 := gd_in wsC_sub wsC_good (List.forall_mem_cons.mpr ⟨wsCw_7, fun _ h => h⟩)
theorem gC_Jxc12de_1 {x : Cond} : (.methodLink RJxc12de 1 yJxa1e45_init_da8c8 : Cond) ∈ x :: wsC := wsC_sub _ wsCw_4
theorem sC_Jxa1e45_init_da8c8 {x : Cond} : (.instanceMethod yJxa1e45_init_da8c8 : Cond) ∈ x :: wsC := wsC_sub _ wsCw_5
theorem iC_Jxa1e45 {x : Cond} : (.initialized RJxa1e45 : Cond) ∈ x :: wsC := wsC_sub _ wsCw_6
theorem lC_Jx4a65c_39 {x : Cond} : Cond.fieldLink RJx4a65c 39 RJx4a65c "DEFAULTCAPACITY_EMPTY_ELEMENTDATA" "[Ljava/lang/Object;" ∈ x :: wsC := wsC_sub _ wsCw_8
theorem lC_Jx4a65c_9 {x : Cond} : Cond.fieldLink RJx4a65c 9 RJx4a65c "elementData" "[Ljava/lang/Object;" ∈ x :: wsC := wsC_sub _ wsCw_9
theorem gC_Jxc12de_init_da8c8 {x : Cond} : GoodIn (x :: wsC) vJxc12de_init_da8c8 := gd_in wsC_sub wsC_good (List.forall_mem_cons.mpr ⟨wsCw_13, fun _ h => h⟩)
theorem gC_Jx4a65c_1 {x : Cond} : (.methodLink RJx4a65c 1 yJxc12de_init_da8c8 : Cond) ∈ x :: wsC := wsC_sub _ wsCw_10
theorem sC_Jxc12de_init_da8c8 {x : Cond} : (.instanceMethod yJxc12de_init_da8c8 : Cond) ∈ x :: wsC := wsC_sub _ wsCw_11
theorem iC_Jxc12de {x : Cond} : (.initialized RJxc12de : Cond) ∈ x :: wsC := wsC_sub _ wsCw_12
theorem hC_X3_9 {x : Cond} : (.classLink RX3 9 RJx4a65c : Cond) ∈ x :: wsC := wsC_sub _ wsCw_15
theorem nC_Jx4a65c {x : Cond} : (.instantiable RJx4a65c 3 : Cond) ∈ x :: wsC := wsC_sub _ wsCw_16
theorem iC_Jx4a65c {x : Cond} : (.initialized RJx4a65c : Cond) ∈ x :: wsC := wsC_sub _ wsCw_17
theorem lC_X3_12 {x : Cond} : Cond.fieldLink RX3 12 RX3 "kept" "Ljava/util/ArrayList;" ∈ x :: wsC := wsC_sub _ wsCw_18
theorem gC_Jx4a65c_init_da8c8 {x : Cond} : GoodIn (x :: wsC) vJx4a65c_init_da8c8 := gd_in wsC_sub wsC_good (List.forall_mem_cons.mpr ⟨wsCw_21, fun _ h => h⟩)
theorem gC_X3_11 {x : Cond} : (.methodLink RX3 11 yJx4a65c_init_da8c8 : Cond) ∈ x :: wsC := wsC_sub _ wsCw_19
theorem sC_Jx4a65c_init_da8c8 {x : Cond} : (.instanceMethod yJx4a65c_init_da8c8 : Cond) ∈ x :: wsC := wsC_sub _ wsCw_20
theorem aC_long {x : Cond} : (.arrayClass .long : Cond) ∈ x :: wsC := wsC_sub _ wsCw_27
theorem lC_X9_13 {x : Cond} : Cond.fieldLink RX9 13 RX9 "cells" "[J" ∈ x :: wsC := wsC_sub _ wsCw_28
theorem hC_X0_9 {x : Cond} : (.classLink RX0 9 RX3 : Cond) ∈ x :: wsC := wsC_sub _ wsCw_30
theorem nC_X3 {x : Cond} : (.instantiable RX3 1 : Cond) ∈ x :: wsC := wsC_sub _ wsCw_31
theorem iC_X3 {x : Cond} : (.initialized RX3 : Cond) ∈ x :: wsC := wsC_sub _ wsCw_32
theorem lC_X0_12 {x : Cond} : Cond.fieldLink RX0 12 RX0 "book" "LMillstreamPayments$Book;" ∈ x :: wsC := wsC_sub _ wsCw_33
theorem hC_X0_18 {x : Cond} : (.classLink RX0 18 RX9 : Cond) ∈ x :: wsC := wsC_sub _ wsCw_34
theorem nC_X9 {x : Cond} : (.instantiable RX9 1 : Cond) ∈ x :: wsC := wsC_sub _ wsCw_35
theorem iC_X9 {x : Cond} : (.initialized RX9 : Cond) ∈ x :: wsC := wsC_sub _ wsCw_36
theorem lC_X0_23 {x : Cond} : Cond.fieldLink RX0 23 RX0 "balances" "LMillstreamPayments$Row;" ∈ x :: wsC := wsC_sub _ wsCw_37
theorem lC_X0_27 {x : Cond} : Cond.fieldLink RX0 27 RX0 "lines" "LMillstreamPayments$Row;" ∈ x :: wsC := wsC_sub _ wsCw_38
theorem lC_X0_30 {x : Cond} : Cond.fieldLink RX0 30 RX0 "paidToday" "LMillstreamPayments$Row;" ∈ x :: wsC := wsC_sub _ wsCw_39
theorem lC_X0_33 {x : Cond} : Cond.fieldLink RX0 33 RX0 "limits" "LMillstreamPayments$Row;" ∈ x :: wsC := wsC_sub _ wsCw_40
theorem kC_X0_36 {x : Cond} : (.constantLong RX0 36 (-1) : Cond) ∈ x :: wsC := wsC_sub _ wsCw_41
theorem sC_X3_init {x : Cond} : (.instanceMethod yX3_init : Cond) ∈ x :: wsC := wsC_sub _ wsCw_42
theorem gC_X9_init {x : Cond} : GoodIn (x :: wsC) vX9_init := gd_in wsC_sub wsC_good (List.forall_mem_cons.mpr ⟨wsCw_46, fun _ h => h⟩)
theorem gC_X0_20 {x : Cond} : (.methodLink RX0 20 yX9_init : Cond) ∈ x :: wsC := wsC_sub _ wsCw_44
theorem sC_X9_init {x : Cond} : (.instanceMethod yX9_init : Cond) ∈ x :: wsC := wsC_sub _ wsCw_45
theorem gC_X0_38 {x : Cond} : GoodIn (x :: wsC) (wsV RX0 38 RX9 yX9_fill vX9_fill) := gd_in wsC_sub wsC_good (gd_V wsCw_47 wsCw_48 wsCw_49 wsCw_36 wsCw_50)
theorem sC_X9_fill {x : Cond} : (.instanceMethod yX9_fill : Cond) ∈ x :: wsC := wsC_sub _ wsCw_48
theorem sC_X11_accountSlot {x : Cond} : (.static yX11_accountSlot : Cond) ∈ x :: wsC := wsC_sub _ wsCw_51
theorem iC_X11 {x : Cond} : (.initialized RX11 : Cond) ∈ x :: wsC := wsC_sub _ wsCw_52
theorem gC_X0_46 {x : Cond} : GoodIn (x :: wsC) (wsV RX0 46 RX9 yX9_at vX9_at) := gd_in wsC_sub wsC_good (gd_V wsCw_54 wsCw_55 wsCw_56 wsCw_36 wsCw_57)
theorem sC_X9_at {x : Cond} : (.instanceMethod yX9_at : Cond) ∈ x :: wsC := wsC_sub _ wsCw_55
theorem gC_X0_50 {x : Cond} : GoodIn (x :: wsC) (wsV RX0 50 RX9 yX9_put vX9_put) := gd_in wsC_sub wsC_good (gd_V wsCw_58 wsCw_59 wsCw_60 wsCw_36 wsCw_61)
theorem sC_X9_put {x : Cond} : (.instanceMethod yX9_put : Cond) ∈ x :: wsC := wsC_sub _ wsCw_59
theorem lC_X5_7 {x : Cond} : Cond.fieldLink RX5 7 RX5 "from" "I" ∈ x :: wsC := wsC_sub _ wsCw_63
theorem lC_X5_13 {x : Cond} : Cond.fieldLink RX5 13 RX5 "to" "I" ∈ x :: wsC := wsC_sub _ wsCw_64
theorem lC_X5_16 {x : Cond} : Cond.fieldLink RX5 16 RX5 "currency" "I" ∈ x :: wsC := wsC_sub _ wsCw_65
theorem lC_X5_19 {x : Cond} : Cond.fieldLink RX5 19 RX5 "amount" "J" ∈ x :: wsC := wsC_sub _ wsCw_66
theorem lC_X5_23 {x : Cond} : Cond.fieldLink RX5 23 RX5 "payment" "I" ∈ x :: wsC := wsC_sub _ wsCw_67
theorem lC_Jx4a65c_48 {x : Cond} : Cond.fieldLink RJx4a65c 48 RJx4a65c "size" "I" ∈ x :: wsC := wsC_sub _ wsCw_68
theorem kC_J8_200 {x : Cond} : (.constant RJ8 200 (2147483639) : Cond) ∈ x :: wsC := wsC_sub _ wsCw_69
theorem gC_J8_201 {x : Cond} : GoodIn (x :: wsC) (va_wsS RJ8 201 yJ8_hugeLength_7cf53 vJ8_hugeLength_7cf53) := gd_in wsC_sub wsC_good (gd_S wsCw_71 wsCw_72 wsCw_73 wsCw_74)
theorem sC_J8_hugeLength_7cf53 {x : Cond} : (.static yJ8_hugeLength_7cf53 : Cond) ∈ x :: wsC := wsC_sub _ wsCw_72
theorem iC_J8 {x : Cond} : (.initialized RJ8 : Cond) ∈ x :: wsC := wsC_sub _ wsCw_73
theorem hC_J7_110 {x : Cond} : (.classLink RJ7 110 "[Ljava/lang/Object;" : Cond) ∈ x :: wsC := wsC_sub _ wsCw_75
theorem hC_J7_2 {x : Cond} : (.classLink RJ7 2 "java/lang/Object" : Cond) ∈ x :: wsC := wsC_sub _ wsCw_76
theorem gC_J7_300 {x : Cond} : GoodIn (x :: wsC) (va_wsS RJ7 300 yJ7_copyOf_6403c vJ7_copyOf_6403c) := gd_in wsC_sub wsC_good (gd_S wsCw_88 wsCw_89 wsCw_90 wsCw_91)
theorem sC_J7_copyOf_6403c {x : Cond} : (.static yJ7_copyOf_6403c : Cond) ∈ x :: wsC := wsC_sub _ wsCw_89
theorem iC_J7 {x : Cond} : (.initialized RJ7 : Cond) ∈ x :: wsC := wsC_sub _ wsCw_90
theorem hC_Jx4a65c_7 {x : Cond} : (.classLink RJx4a65c 7 "java/lang/Object" : Cond) ∈ x :: wsC := wsC_sub _ wsCw_93
theorem gC_Jx4a65c_73 {x : Cond} : GoodIn (x :: wsC) (va_wsS RJx4a65c 73 yJ8_newLength_cabcc vJ8_newLength_cabcc) := gd_in wsC_sub wsC_good (gd_S wsCw_94 wsCw_95 wsCw_73 wsCw_96)
theorem sC_J8_newLength_cabcc {x : Cond} : (.static yJ8_newLength_cabcc : Cond) ∈ x :: wsC := wsC_sub _ wsCw_95
theorem gC_Jx4a65c_66 {x : Cond} : GoodIn (x :: wsC) (va_wsS RJx4a65c 66 yJ7_copyOf_1904c vJ7_copyOf_1904c) := gd_in wsC_sub wsC_good (gd_S wsCw_97 wsCw_98 wsCw_90 wsCw_99)
theorem sC_J7_copyOf_1904c {x : Cond} : (.static yJ7_copyOf_1904c : Cond) ∈ x :: wsC := wsC_sub _ wsCw_98
theorem gC_Jx4a65c_69 {x : Cond} : GoodIn (x :: wsC) (wsV RJx4a65c 69 RJx4a65c yJx4a65c_grow_92f84 vJx4a65c_grow_92f84) := gd_in wsC_sub wsC_good (gd_V wsCw_100 wsCw_101 wsCw_102 wsCw_17 wsCw_103)
theorem sC_Jx4a65c_grow_92f84 {x : Cond} : (.instanceMethod yJx4a65c_grow_92f84 : Cond) ∈ x :: wsC := wsC_sub _ wsCw_101
theorem gC_Jx4a65c_129 {x : Cond} : GoodIn (x :: wsC) (wsV RJx4a65c 129 RJx4a65c yJx4a65c_grow_d5877 vJx4a65c_grow_d5877) := gd_in wsC_sub wsC_good (gd_V wsCw_104 wsCw_105 wsCw_106 wsCw_17 wsCw_107)
theorem sC_Jx4a65c_grow_d5877 {x : Cond} : (.instanceMethod yJx4a65c_grow_d5877 : Cond) ∈ x :: wsC := wsC_sub _ wsCw_105
theorem lC_Jx4a65c_63 {x : Cond} : Cond.fieldLink RJx4a65c 63 RJx4a65c "modCount" "I" ∈ x :: wsC := wsC_sub _ wsCw_108
theorem gC_Jx4a65c_131 {x : Cond} : GoodIn (x :: wsC) (wsV RJx4a65c 131 RJx4a65c yJx4a65c_add_72be8 vJx4a65c_add_72be8) := gd_in wsC_sub wsC_good (gd_V wsCw_110 wsCw_111 wsCw_112 wsCw_17 wsCw_113)
theorem sC_Jx4a65c_add_72be8 {x : Cond} : (.instanceMethod yJx4a65c_add_72be8 : Cond) ∈ x :: wsC := wsC_sub _ wsCw_111
theorem gC_X3_18 {x : Cond} : GoodIn (x :: wsC) (wsV RX3 18 RJx4a65c yJx4a65c_size_8abf5 vJx4a65c_size_8abf5) := gd_in wsC_sub wsC_good (gd_V wsCw_114 wsCw_115 wsCw_116 wsCw_17 wsCw_117)
theorem sC_Jx4a65c_size_8abf5 {x : Cond} : (.instanceMethod yJx4a65c_size_8abf5 : Cond) ∈ x :: wsC := wsC_sub _ wsCw_115
theorem gC_X3_28 {x : Cond} : GoodIn (x :: wsC) (wsV RX3 28 RJx4a65c yJx4a65c_add_9ea2d vJx4a65c_add_9ea2d) := gd_in wsC_sub wsC_good (gd_V wsCw_118 wsCw_119 wsCw_120 wsCw_17 wsCw_121)
theorem sC_Jx4a65c_add_9ea2d {x : Cond} : (.instanceMethod yJx4a65c_add_9ea2d : Cond) ∈ x :: wsC := wsC_sub _ wsCw_119
theorem hC_X0_57 {x : Cond} : (.classLink RX0 57 RX5 : Cond) ∈ x :: wsC := wsC_sub _ wsCw_122
theorem nC_X5 {x : Cond} : (.instantiable RX5 5 : Cond) ∈ x :: wsC := wsC_sub _ wsCw_123
theorem iC_X5 {x : Cond} : (.initialized RX5 : Cond) ∈ x :: wsC := wsC_sub _ wsCw_124
theorem gC_X0_54 {x : Cond} : GoodIn (x :: wsC) (wsV RX0 54 RX9 yX9_add vX9_add) := gd_in wsC_sub wsC_good (gd_V wsCw_125 wsCw_126 wsCw_127 wsCw_36 wsCw_128)
theorem sC_X9_add {x : Cond} : (.instanceMethod yX9_add : Cond) ∈ x :: wsC := wsC_sub _ wsCw_126
theorem gC_X5_init {x : Cond} : GoodIn (x :: wsC) vX5_init := gd_in wsC_sub wsC_good (List.forall_mem_cons.mpr ⟨wsCw_131, fun _ h => h⟩)
theorem gC_X0_59 {x : Cond} : (.methodLink RX0 59 yX5_init : Cond) ∈ x :: wsC := wsC_sub _ wsCw_129
theorem sC_X5_init {x : Cond} : (.instanceMethod yX5_init : Cond) ∈ x :: wsC := wsC_sub _ wsCw_130
theorem gC_X0_62 {x : Cond} : GoodIn (x :: wsC) (wsV RX0 62 RX3 yX3_keep vX3_keep) := gd_in wsC_sub wsC_good (gd_V wsCw_132 wsCw_133 wsCw_134 wsCw_32 wsCw_135)
theorem sC_X3_keep {x : Cond} : (.instanceMethod yX3_keep : Cond) ∈ x :: wsC := wsC_sub _ wsCw_133
theorem lC_X0_66 {x : Cond} : Cond.fieldLink RX0 66 RX10 "from" "I" ∈ x :: wsC := wsC_sub _ wsCw_136
theorem lC_X0_72 {x : Cond} : Cond.fieldLink RX0 72 RX10 "to" "I" ∈ x :: wsC := wsC_sub _ wsCw_137
theorem lC_X0_75 {x : Cond} : Cond.fieldLink RX0 75 RX10 "currency" "I" ∈ x :: wsC := wsC_sub _ wsCw_138
theorem lC_X0_78 {x : Cond} : Cond.fieldLink RX0 78 RX10 "amount" "I" ∈ x :: wsC := wsC_sub _ wsCw_139
theorem gC_X0_81 {x : Cond} : GoodIn (x :: wsC) (wsV RX0 81 RX0 yX0_move vX0_move) := gd_in wsC_sub wsC_good (gd_V wsCw_140 wsCw_141 wsCw_142 wsCw_143 wsCw_144)
theorem sC_X0_move {x : Cond} : (.instanceMethod yX0_move : Cond) ∈ x :: wsC := wsC_sub _ wsCw_141
theorem iC_X0 {x : Cond} : (.initialized RX0 : Cond) ∈ x :: wsC := wsC_sub _ wsCw_143
theorem sC_X11_pairSlot {x : Cond} : (.static yX11_pairSlot : Cond) ∈ x :: wsC := wsC_sub _ wsCw_145
theorem hC_X1_9 {x : Cond} : (.classLink RX1 9 RX9 : Cond) ∈ x :: wsC := wsC_sub _ wsCw_148
theorem lC_X1_14 {x : Cond} : Cond.fieldLink RX1 14 RX1 "told" "LMillstreamPayments$Row;" ∈ x :: wsC := wsC_sub _ wsCw_149
theorem lC_X1_20 {x : Cond} : Cond.fieldLink RX1 20 RX1 "counts" "LMillstreamPayments$Row;" ∈ x :: wsC := wsC_sub _ wsCw_150
theorem lC_X1_23 {x : Cond} : Cond.fieldLink RX1 23 RX1 "taken" "LMillstreamPayments$Row;" ∈ x :: wsC := wsC_sub _ wsCw_151
theorem lC_X1_26 {x : Cond} : Cond.fieldLink RX1 26 RX1 "most" "LMillstreamPayments$Row;" ∈ x :: wsC := wsC_sub _ wsCw_152
theorem gC_X1_11 {x : Cond} : (.methodLink RX1 11 yX9_init : Cond) ∈ x :: wsC := wsC_sub _ wsCw_153
theorem kC_X1_33 {x : Cond} : (.constantLong RX1 33 (60) : Cond) ∈ x :: wsC := wsC_sub _ wsCw_154
theorem gC_X1_29 {x : Cond} : GoodIn (x :: wsC) (wsV RX1 29 RX9 yX9_at vX9_at) := gd_in wsC_sub wsC_good (gd_V wsCw_155 wsCw_55 wsCw_56 wsCw_36 wsCw_57)
theorem gC_X1_35 {x : Cond} : GoodIn (x :: wsC) (wsV RX1 35 RX9 yX9_put vX9_put) := gd_in wsC_sub wsC_good (gd_V wsCw_156 wsCw_59 wsCw_60 wsCw_36 wsCw_61)
theorem gC_X1_39 {x : Cond} : GoodIn (x :: wsC) (wsV RX1 39 RX9 yX9_add vX9_add) := gd_in wsC_sub wsC_good (gd_V wsCw_157 wsCw_126 wsCw_127 wsCw_36 wsCw_128)
theorem hC_X2_9 {x : Cond} : (.classLink RX2 9 RX9 : Cond) ∈ x :: wsC := wsC_sub _ wsCw_162
theorem lC_X2_14 {x : Cond} : Cond.fieldLink RX2 14 RX2 "members" "LMillstreamPayments$Row;" ∈ x :: wsC := wsC_sub _ wsCw_163
theorem lC_X2_20 {x : Cond} : Cond.fieldLink RX2 20 RX2 "changes" "LMillstreamPayments$Row;" ∈ x :: wsC := wsC_sub _ wsCw_164
theorem lC_X2_23 {x : Cond} : Cond.fieldLink RX2 23 RX2 "flows" "LMillstreamPayments$Row;" ∈ x :: wsC := wsC_sub _ wsCw_165
theorem gC_X2_11 {x : Cond} : (.methodLink RX2 11 yX9_init : Cond) ∈ x :: wsC := wsC_sub _ wsCw_166
theorem gC_X2_26 {x : Cond} : GoodIn (x :: wsC) (wsV RX2 26 RX9 yX9_fill vX9_fill) := gd_in wsC_sub wsC_good (gd_V wsCw_167 wsCw_48 wsCw_49 wsCw_36 wsCw_50)
theorem lC_X2_30 {x : Cond} : Cond.fieldLink RX2 30 RX7 "number" "I" ∈ x :: wsC := wsC_sub _ wsCw_168
theorem gC_X2_36 {x : Cond} : GoodIn (x :: wsC) (wsV RX2 36 RX9 yX9_isSet vX9_isSet) := gd_in wsC_sub wsC_good (gd_V wsCw_169 wsCw_170 wsCw_171 wsCw_36 wsCw_172)
theorem sC_X9_isSet {x : Cond} : (.instanceMethod yX9_isSet : Cond) ∈ x :: wsC := wsC_sub _ wsCw_170
theorem gC_X9_19 {x : Cond} : GoodIn (x :: wsC) (wsV RX9 19 RX9 yX9_put vX9_put) := gd_in wsC_sub wsC_good (gd_V wsCw_173 wsCw_59 wsCw_60 wsCw_36 wsCw_61)
theorem lC_X2_57 {x : Cond} : Cond.fieldLink RX2 57 RX10 "from" "I" ∈ x :: wsC := wsC_sub _ wsCw_174
theorem lC_X2_60 {x : Cond} : Cond.fieldLink RX2 60 RX10 "currency" "I" ∈ x :: wsC := wsC_sub _ wsCw_175
theorem lC_X2_71 {x : Cond} : Cond.fieldLink RX2 71 RX10 "to" "I" ∈ x :: wsC := wsC_sub _ wsCw_176
theorem gC_X2_67 {x : Cond} : GoodIn (x :: wsC) (wsV RX2 67 RX9 yX9_add vX9_add) := gd_in wsC_sub wsC_good (gd_V wsCw_177 wsCw_126 wsCw_127 wsCw_36 wsCw_128)
theorem lC_X2_44 {x : Cond} : Cond.fieldLink RX2 44 RX7 "terms" "LMillstreamPayments$Terms;" ∈ x :: wsC := wsC_sub _ wsCw_178
theorem lC_X2_48 {x : Cond} : Cond.fieldLink RX2 48 RX10 "amount" "I" ∈ x :: wsC := wsC_sub _ wsCw_179
theorem gC_X2_40 {x : Cond} : GoodIn (x :: wsC) (wsV RX2 40 RX9 yX9_mark vX9_mark) := gd_in wsC_sub wsC_good (gd_V wsCw_180 wsCw_181 wsCw_182 wsCw_36 wsCw_183)
theorem sC_X9_mark {x : Cond} : (.instanceMethod yX9_mark : Cond) ∈ x :: wsC := wsC_sub _ wsCw_181
theorem gC_X2_53 {x : Cond} : GoodIn (x :: wsC) (wsV RX2 53 RX2 yX2_count vX2_count) := gd_in wsC_sub wsC_good (gd_V wsCw_184 wsCw_185 wsCw_186 wsCw_187 wsCw_188)
theorem sC_X2_count {x : Cond} : (.instanceMethod yX2_count : Cond) ∈ x :: wsC := wsC_sub _ wsCw_185
theorem iC_X2 {x : Cond} : (.initialized RX2 : Cond) ∈ x :: wsC := wsC_sub _ wsCw_187
theorem gC_X2_78 {x : Cond} : GoodIn (x :: wsC) (wsV RX2 78 RX9 yX9_at vX9_at) := gd_in wsC_sub wsC_good (gd_V wsCw_189 wsCw_55 wsCw_56 wsCw_36 wsCw_57)
theorem gC_X2_82 {x : Cond} : GoodIn (x :: wsC) (wsV RX2 82 RX0 yX0_isTooLowBy vX0_isTooLowBy) := gd_in wsC_sub wsC_good (gd_V wsCw_190 wsCw_191 wsCw_192 wsCw_143 wsCw_193)
theorem sC_X0_isTooLowBy {x : Cond} : (.instanceMethod yX0_isTooLowBy : Cond) ∈ x :: wsC := wsC_sub _ wsCw_191
theorem gC_X2_88 {x : Cond} : GoodIn (x :: wsC) (wsV RX2 88 RX0 yX0_isPassedBy vX0_isPassedBy) := gd_in wsC_sub wsC_good (gd_V wsCw_194 wsCw_195 wsCw_196 wsCw_143 wsCw_197)
theorem sC_X0_isPassedBy {x : Cond} : (.instanceMethod yX0_isPassedBy : Cond) ∈ x :: wsC := wsC_sub _ wsCw_195
theorem gC_X2_91 {x : Cond} : GoodIn (x :: wsC) (wsV RX2 91 RX2 yX2_lowestTooLow vX2_lowestTooLow) := gd_in wsC_sub wsC_good (gd_V wsCw_198 wsCw_199 wsCw_200 wsCw_187 wsCw_201)
theorem sC_X2_lowestTooLow {x : Cond} : (.instanceMethod yX2_lowestTooLow : Cond) ∈ x :: wsC := wsC_sub _ wsCw_199
theorem gC_X2_95 {x : Cond} : GoodIn (x :: wsC) (wsV RX2 95 RX2 yX2_passesLimit vX2_passesLimit) := gd_in wsC_sub wsC_good (gd_V wsCw_202 wsCw_203 wsCw_204 wsCw_187 wsCw_205)
theorem sC_X2_passesLimit {x : Cond} : (.instanceMethod yX2_passesLimit : Cond) ∈ x :: wsC := wsC_sub _ wsCw_203
theorem gC_J15_105 {x : Cond} : GoodIn (x :: wsC) (va_wsS RJ15 105 yJ3_checkIndex_8e157 vJ3_checkIndex_8e157) := gd_in wsC_sub wsC_good (gd_S wsCw_206 wsCw_207 wsCw_208 wsCw_209)
theorem sC_J3_checkIndex_8e157 {x : Cond} : (.static yJ3_checkIndex_8e157 : Cond) ∈ x :: wsC := wsC_sub _ wsCw_207
theorem iC_J3 {x : Cond} : (.initialized RJ3 : Cond) ∈ x :: wsC := wsC_sub _ wsCw_208
theorem gC_Jx4a65c_118 {x : Cond} : GoodIn (x :: wsC) (va_wsS RJx4a65c 118 yJ15_checkIndex_7cf53 vJ15_checkIndex_7cf53) := gd_in wsC_sub wsC_good (gd_S wsCw_210 wsCw_211 wsCw_212 wsCw_213)
theorem sC_J15_checkIndex_7cf53 {x : Cond} : (.static yJ15_checkIndex_7cf53 : Cond) ∈ x :: wsC := wsC_sub _ wsCw_211
theorem iC_J15 {x : Cond} : (.initialized RJ15 : Cond) ∈ x :: wsC := wsC_sub _ wsCw_212
theorem gC_Jx4a65c_123 {x : Cond} : GoodIn (x :: wsC) (wsV RJx4a65c 123 RJx4a65c yJx4a65c_elementData_915e3 vJx4a65c_elementData_915e3) := gd_in wsC_sub wsC_good (gd_V wsCw_214 wsCw_215 wsCw_216 wsCw_17 wsCw_217)
theorem sC_Jx4a65c_elementData_915e3 {x : Cond} : (.instanceMethod yJx4a65c_elementData_915e3 : Cond) ∈ x :: wsC := wsC_sub _ wsCw_215
theorem hC_X3_26 {x : Cond} : (.classLink RX3 26 "MillstreamPayments$Entry" : Cond) ∈ x :: wsC := wsC_sub _ wsCw_218
theorem gC_X3_22 {x : Cond} : GoodIn (x :: wsC) (wsV RX3 22 RJx4a65c yJx4a65c_get_915e3 vJx4a65c_get_915e3) := gd_in wsC_sub wsC_good (gd_V wsCw_219 wsCw_220 wsCw_221 wsCw_17 wsCw_222)
theorem sC_Jx4a65c_get_915e3 {x : Cond} : (.instanceMethod yJx4a65c_get_915e3 : Cond) ∈ x :: wsC := wsC_sub _ wsCw_220
theorem lC_X3_32 {x : Cond} : Cond.fieldLink RX3 32 RX5 "currency" "I" ∈ x :: wsC := wsC_sub _ wsCw_223
theorem lC_X3_36 {x : Cond} : Cond.fieldLink RX3 36 RX5 "to" "I" ∈ x :: wsC := wsC_sub _ wsCw_224
theorem lC_X3_39 {x : Cond} : Cond.fieldLink RX3 39 RX5 "amount" "J" ∈ x :: wsC := wsC_sub _ wsCw_225
theorem lC_X3_43 {x : Cond} : Cond.fieldLink RX3 43 RX5 "from" "I" ∈ x :: wsC := wsC_sub _ wsCw_226
theorem hC_X4_9 {x : Cond} : (.classLink RX4 9 RX9 : Cond) ∈ x :: wsC := wsC_sub _ wsCw_228
theorem lC_X4_14 {x : Cond} : Cond.fieldLink RX4 14 RX4 "holidays" "LMillstreamPayments$Row;" ∈ x :: wsC := wsC_sub _ wsCw_229
theorem gC_X4_11 {x : Cond} : (.methodLink RX4 11 yX9_init : Cond) ∈ x :: wsC := wsC_sub _ wsCw_230
theorem gC_X4_20 {x : Cond} : GoodIn (x :: wsC) (wsV RX4 20 RX9 yX9_mark vX9_mark) := gd_in wsC_sub wsC_good (gd_V wsCw_231 wsCw_181 wsCw_182 wsCw_36 wsCw_183)
theorem gC_X4_24 {x : Cond} : GoodIn (x :: wsC) (wsV RX4 24 RX9 yX9_isSet vX9_isSet) := gd_in wsC_sub wsC_good (gd_V wsCw_232 wsCw_170 wsCw_171 wsCw_36 wsCw_172)
theorem lC_X4_28 {x : Cond} : Cond.fieldLink RX4 28 RX4 "day" "I" ∈ x :: wsC := wsC_sub _ wsCw_233
theorem gC_X4_32 {x : Cond} : GoodIn (x :: wsC) (wsV RX4 32 RX4 yX4_isOpen vX4_isOpen) := gd_in wsC_sub wsC_good (gd_V wsCw_234 wsCw_235 wsCw_236 wsCw_237 wsCw_238)
theorem sC_X4_isOpen {x : Cond} : (.instanceMethod yX4_isOpen : Cond) ∈ x :: wsC := wsC_sub _ wsCw_235
theorem iC_X4 {x : Cond} : (.initialized RX4 : Cond) ∈ x :: wsC := wsC_sub _ wsCw_237
theorem hC_X8_9 {x : Cond} : (.classLink RX8 9 RJx4a65c : Cond) ∈ x :: wsC := wsC_sub _ wsCw_240
theorem lC_X8_12 {x : Cond} : Cond.fieldLink RX8 12 RX8 "all" "Ljava/util/ArrayList;" ∈ x :: wsC := wsC_sub _ wsCw_241
theorem hC_X8_18 {x : Cond} : (.classLink RX8 18 RX9 : Cond) ∈ x :: wsC := wsC_sub _ wsCw_242
theorem lC_X8_23 {x : Cond} : Cond.fieldLink RX8 23 RX8 "paymentsOfMessages" "LMillstreamPayments$Row;" ∈ x :: wsC := wsC_sub _ wsCw_243
theorem kC_X8_27 {x : Cond} : (.constantLong RX8 27 (-1) : Cond) ∈ x :: wsC := wsC_sub _ wsCw_244
theorem gC_X8_11 {x : Cond} : (.methodLink RX8 11 yJx4a65c_init_da8c8 : Cond) ∈ x :: wsC := wsC_sub _ wsCw_245
theorem gC_X8_20 {x : Cond} : (.methodLink RX8 20 yX9_init : Cond) ∈ x :: wsC := wsC_sub _ wsCw_246
theorem gC_X8_29 {x : Cond} : GoodIn (x :: wsC) (wsV RX8 29 RX9 yX9_fill vX9_fill) := gd_in wsC_sub wsC_good (gd_V wsCw_247 wsCw_48 wsCw_49 wsCw_36 wsCw_50)
theorem hC_X6_9 {x : Cond} : (.classLink RX6 9 RX4 : Cond) ∈ x :: wsC := wsC_sub _ wsCw_249
theorem nC_X4 {x : Cond} : (.instantiable RX4 2 : Cond) ∈ x :: wsC := wsC_sub _ wsCw_250
theorem lC_X6_12 {x : Cond} : Cond.fieldLink RX6 12 RX6 "calendar" "LMillstreamPayments$Calendar;" ∈ x :: wsC := wsC_sub _ wsCw_251
theorem hC_X6_18 {x : Cond} : (.classLink RX6 18 RX0 : Cond) ∈ x :: wsC := wsC_sub _ wsCw_252
theorem nC_X0 {x : Cond} : (.instantiable RX0 5 : Cond) ∈ x :: wsC := wsC_sub _ wsCw_253
theorem lC_X6_21 {x : Cond} : Cond.fieldLink RX6 21 RX6 "accounts" "LMillstreamPayments$Accounts;" ∈ x :: wsC := wsC_sub _ wsCw_254
theorem hC_X6_25 {x : Cond} : (.classLink RX6 25 RX8 : Cond) ∈ x :: wsC := wsC_sub _ wsCw_255
theorem nC_X8 {x : Cond} : (.instantiable RX8 2 : Cond) ∈ x :: wsC := wsC_sub _ wsCw_256
theorem iC_X8 {x : Cond} : (.initialized RX8 : Cond) ∈ x :: wsC := wsC_sub _ wsCw_257
theorem lC_X6_28 {x : Cond} : Cond.fieldLink RX6 28 RX6 "register" "LMillstreamPayments$Register;" ∈ x :: wsC := wsC_sub _ wsCw_258
theorem hC_X6_32 {x : Cond} : (.classLink RX6 32 RX1 : Cond) ∈ x :: wsC := wsC_sub _ wsCw_259
theorem nC_X1 {x : Cond} : (.instantiable RX1 4 : Cond) ∈ x :: wsC := wsC_sub _ wsCw_260
theorem iC_X1 {x : Cond} : (.initialized RX1 : Cond) ∈ x :: wsC := wsC_sub _ wsCw_261
theorem lC_X6_35 {x : Cond} : Cond.fieldLink RX6 35 RX6 "advices" "LMillstreamPayments$Advices;" ∈ x :: wsC := wsC_sub _ wsCw_262
theorem hC_X6_39 {x : Cond} : (.classLink RX6 39 RX9 : Cond) ∈ x :: wsC := wsC_sub _ wsCw_263
theorem lC_X6_44 {x : Cond} : Cond.fieldLink RX6 44 RX6 "outages" "LMillstreamPayments$Row;" ∈ x :: wsC := wsC_sub _ wsCw_264
theorem lC_X6_48 {x : Cond} : Cond.fieldLink RX6 48 RX6 "listed" "LMillstreamPayments$Row;" ∈ x :: wsC := wsC_sub _ wsCw_265
theorem hC_X6_51 {x : Cond} : (.classLink RX6 51 RX2 : Cond) ∈ x :: wsC := wsC_sub _ wsCw_266
theorem nC_X2 {x : Cond} : (.instantiable RX2 3 : Cond) ∈ x :: wsC := wsC_sub _ wsCw_267
theorem lC_X6_54 {x : Cond} : Cond.fieldLink RX6 54 RX6 "batch" "LMillstreamPayments$Batch;" ∈ x :: wsC := wsC_sub _ wsCw_268
theorem sC_X4_init {x : Cond} : (.instanceMethod yX4_init : Cond) ∈ x :: wsC := wsC_sub _ wsCw_269
theorem gC_X0_init {x : Cond} : GoodIn (x :: wsC) vX0_init := gd_in wsC_sub wsC_good (List.forall_mem_cons.mpr ⟨wsCw_273, fun _ h => h⟩)
theorem gC_X6_20 {x : Cond} : (.methodLink RX6 20 yX0_init : Cond) ∈ x :: wsC := wsC_sub _ wsCw_271
theorem sC_X0_init {x : Cond} : (.instanceMethod yX0_init : Cond) ∈ x :: wsC := wsC_sub _ wsCw_272
theorem gC_X8_init {x : Cond} : GoodIn (x :: wsC) vX8_init := gd_in wsC_sub wsC_good (List.forall_mem_cons.mpr ⟨wsCw_276, fun _ h => h⟩)
theorem gC_X6_27 {x : Cond} : (.methodLink RX6 27 yX8_init : Cond) ∈ x :: wsC := wsC_sub _ wsCw_274
theorem sC_X8_init {x : Cond} : (.instanceMethod yX8_init : Cond) ∈ x :: wsC := wsC_sub _ wsCw_275
theorem sC_X1_init {x : Cond} : (.instanceMethod yX1_init : Cond) ∈ x :: wsC := wsC_sub _ wsCw_277
theorem gC_X6_41 {x : Cond} : (.methodLink RX6 41 yX9_init : Cond) ∈ x :: wsC := wsC_sub _ wsCw_279
theorem sC_X2_init {x : Cond} : (.instanceMethod yX2_init : Cond) ∈ x :: wsC := wsC_sub _ wsCw_280
theorem lC_X7_9 {x : Cond} : Cond.fieldLink RX7 9 RX7 "state" "I" ∈ x :: wsC := wsC_sub _ wsCw_283
theorem lC_X7_15 {x : Cond} : Cond.fieldLink RX7 15 RX7 "officer" "I" ∈ x :: wsC := wsC_sub _ wsCw_284
theorem lC_X7_18 {x : Cond} : Cond.fieldLink RX7 18 RX7 "finalDay" "I" ∈ x :: wsC := wsC_sub _ wsCw_285
theorem lC_X7_21 {x : Cond} : Cond.fieldLink RX7 21 RX7 "lastAnswerDay" "I" ∈ x :: wsC := wsC_sub _ wsCw_286
theorem lC_X7_24 {x : Cond} : Cond.fieldLink RX7 24 RX7 "number" "I" ∈ x :: wsC := wsC_sub _ wsCw_287
theorem lC_X7_27 {x : Cond} : Cond.fieldLink RX7 27 RX7 "terms" "LMillstreamPayments$Terms;" ∈ x :: wsC := wsC_sub _ wsCw_288
theorem hC_X8_41 {x : Cond} : (.classLink RX8 41 RX7 : Cond) ∈ x :: wsC := wsC_sub _ wsCw_289
theorem nC_X7 {x : Cond} : (.instantiable RX7 9 : Cond) ∈ x :: wsC := wsC_sub _ wsCw_290
theorem iC_X7 {x : Cond} : (.initialized RX7 : Cond) ∈ x :: wsC := wsC_sub _ wsCw_291
theorem gC_X8_33 {x : Cond} : GoodIn (x :: wsC) (wsV RX8 33 RJx4a65c yJx4a65c_size_8abf5 vJx4a65c_size_8abf5) := gd_in wsC_sub wsC_good (gd_V wsCw_292 wsCw_115 wsCw_116 wsCw_17 wsCw_117)
theorem gC_X7_init {x : Cond} : GoodIn (x :: wsC) vX7_init := gd_in wsC_sub wsC_good (List.forall_mem_cons.mpr ⟨wsCw_295, fun _ h => h⟩)
theorem gC_X8_43 {x : Cond} : (.methodLink RX8 43 yX7_init : Cond) ∈ x :: wsC := wsC_sub _ wsCw_293
theorem sC_X7_init {x : Cond} : (.instanceMethod yX7_init : Cond) ∈ x :: wsC := wsC_sub _ wsCw_294
theorem gC_X8_46 {x : Cond} : GoodIn (x :: wsC) (wsV RX8 46 RJx4a65c yJx4a65c_add_9ea2d vJx4a65c_add_9ea2d) := gd_in wsC_sub wsC_good (gd_V wsCw_296 wsCw_119 wsCw_120 wsCw_17 wsCw_121)
theorem lC_X6_101 {x : Cond} : Cond.fieldLink RX6 101 RX7 "terms" "LMillstreamPayments$Terms;" ∈ x :: wsC := wsC_sub _ wsCw_297
theorem lC_X6_105 {x : Cond} : Cond.fieldLink RX6 105 RX10 "payee" "I" ∈ x :: wsC := wsC_sub _ wsCw_298
theorem lC_X6_111 {x : Cond} : Cond.fieldLink RX6 111 RX7 "isReleased" "Z" ∈ x :: wsC := wsC_sub _ wsCw_299
theorem lC_X6_115 {x : Cond} : Cond.fieldLink RX6 115 RX7 "state" "I" ∈ x :: wsC := wsC_sub _ wsCw_300
theorem lC_X6_118 {x : Cond} : Cond.fieldLink RX6 118 RX10 "isReal" "Z" ∈ x :: wsC := wsC_sub _ wsCw_301
theorem gC_X6_108 {x : Cond} : GoodIn (x :: wsC) (wsV RX6 108 RX9 yX9_isSet vX9_isSet) := gd_in wsC_sub wsC_good (gd_V wsCw_302 wsCw_170 wsCw_171 wsCw_36 wsCw_172)
theorem lC_X6_62 {x : Cond} : Cond.fieldLink RX6 62 RX10 "day" "I" ∈ x :: wsC := wsC_sub _ wsCw_303
theorem lC_X6_68 {x : Cond} : Cond.fieldLink RX6 68 RX4 "day" "I" ∈ x :: wsC := wsC_sub _ wsCw_304
theorem lC_X6_69 {x : Cond} : Cond.fieldLink RX6 69 RX10 "currency" "I" ∈ x :: wsC := wsC_sub _ wsCw_305
theorem lC_X6_80 {x : Cond} : Cond.fieldLink RX6 80 RX7 "number" "I" ∈ x :: wsC := wsC_sub _ wsCw_306
theorem gC_X6_58 {x : Cond} : GoodIn (x :: wsC) (wsV RX6 58 RX8 yX8_open vX8_open) := gd_in wsC_sub wsC_good (gd_V wsCw_307 wsCw_308 wsCw_309 wsCw_257 wsCw_310)
theorem sC_X8_open {x : Cond} : (.instanceMethod yX8_open : Cond) ∈ x :: wsC := wsC_sub _ wsCw_308
theorem gC_X6_72 {x : Cond} : GoodIn (x :: wsC) (wsV RX6 72 RX4 yX4_isOpenToday vX4_isOpenToday) := gd_in wsC_sub wsC_good (gd_V wsCw_311 wsCw_312 wsCw_313 wsCw_237 wsCw_314)
theorem sC_X4_isOpenToday {x : Cond} : (.instanceMethod yX4_isOpenToday : Cond) ∈ x :: wsC := wsC_sub _ wsCw_312
theorem gC_X6_76 {x : Cond} : GoodIn (x :: wsC) (wsV RX6 76 RX6 yX6_letEnter vX6_letEnter) := gd_in wsC_sub wsC_good (gd_V wsCw_315 wsCw_316 wsCw_317 wsCw_318 wsCw_319)
theorem sC_X6_letEnter {x : Cond} : (.instanceMethod yX6_letEnter : Cond) ∈ x :: wsC := wsC_sub _ wsCw_316
theorem iC_X6 {x : Cond} : (.initialized RX6 : Cond) ∈ x :: wsC := wsC_sub _ wsCw_318
theorem lC_X10_7 {x : Cond} : Cond.fieldLink RX10 7 RX10 "from" "I" ∈ x :: wsC := wsC_sub _ wsCw_321
theorem lC_X10_13 {x : Cond} : Cond.fieldLink RX10 13 RX10 "to" "I" ∈ x :: wsC := wsC_sub _ wsCw_322
theorem lC_X10_16 {x : Cond} : Cond.fieldLink RX10 16 RX10 "currency" "I" ∈ x :: wsC := wsC_sub _ wsCw_323
theorem lC_X10_19 {x : Cond} : Cond.fieldLink RX10 19 RX10 "amount" "I" ∈ x :: wsC := wsC_sub _ wsCw_324
theorem lC_X10_22 {x : Cond} : Cond.fieldLink RX10 22 RX10 "payee" "I" ∈ x :: wsC := wsC_sub _ wsCw_325
theorem lC_X10_25 {x : Cond} : Cond.fieldLink RX10 25 RX10 "rank" "I" ∈ x :: wsC := wsC_sub _ wsCw_326
theorem lC_X10_28 {x : Cond} : Cond.fieldLink RX10 28 RX10 "isReal" "Z" ∈ x :: wsC := wsC_sub _ wsCw_327
theorem lC_X10_32 {x : Cond} : Cond.fieldLink RX10 32 RX10 "day" "I" ∈ x :: wsC := wsC_sub _ wsCw_328
theorem lC_X10_35 {x : Cond} : Cond.fieldLink RX10 35 RX10 "stays" "Z" ∈ x :: wsC := wsC_sub _ wsCw_329
theorem hC_X6_63 {x : Cond} : (.classLink RX6 63 RX10 : Cond) ∈ x :: wsC := wsC_sub _ wsCw_330
theorem nC_X10 {x : Cond} : (.instantiable RX10 9 : Cond) ∈ x :: wsC := wsC_sub _ wsCw_331
theorem iC_X10 {x : Cond} : (.initialized RX10 : Cond) ∈ x :: wsC := wsC_sub _ wsCw_332
theorem lC_X6_85 {x : Cond} : Cond.fieldLink RX6 85 RX10 "to" "I" ∈ x :: wsC := wsC_sub _ wsCw_333
theorem lC_X6_88 {x : Cond} : Cond.fieldLink RX6 88 RX10 "from" "I" ∈ x :: wsC := wsC_sub _ wsCw_334
theorem lC_X6_91 {x : Cond} : Cond.fieldLink RX6 91 RX10 "amount" "I" ∈ x :: wsC := wsC_sub _ wsCw_335
theorem gC_X10_init {x : Cond} : GoodIn (x :: wsC) vX10_init := gd_in wsC_sub wsC_good (List.forall_mem_cons.mpr ⟨wsCw_338, fun _ h => h⟩)
theorem gC_X6_94 {x : Cond} : (.methodLink RX6 94 yX10_init : Cond) ∈ x :: wsC := wsC_sub _ wsCw_336
theorem sC_X10_init {x : Cond} : (.instanceMethod yX10_init : Cond) ∈ x :: wsC := wsC_sub _ wsCw_337
theorem gC_X6_97 {x : Cond} : GoodIn (x :: wsC) (wsV RX6 97 RX10 yX10_arrange vX10_arrange) := gd_in wsC_sub wsC_good (gd_V wsCw_339 wsCw_340 wsCw_341 wsCw_332 wsCw_342)
theorem sC_X10_arrange {x : Cond} : (.instanceMethod yX10_arrange : Cond) ∈ x :: wsC := wsC_sub _ wsCw_340
theorem gC_X8_37 {x : Cond} : GoodIn (x :: wsC) (wsV RX8 37 RJx4a65c yJx4a65c_get_915e3 vJx4a65c_get_915e3) := gd_in wsC_sub wsC_good (gd_V wsCw_344 wsCw_220 wsCw_221 wsCw_17 wsCw_222)
theorem gC_X6_121 {x : Cond} : GoodIn (x :: wsC) (wsV RX6 121 RX8 yX8_count vX8_count) := gd_in wsC_sub wsC_good (gd_V wsCw_345 wsCw_346 wsCw_347 wsCw_257 wsCw_348)
theorem sC_X8_count {x : Cond} : (.instanceMethod yX8_count : Cond) ∈ x :: wsC := wsC_sub _ wsCw_346
theorem gC_X6_125 {x : Cond} : GoodIn (x :: wsC) (wsV RX6 125 RX8 yX8_find vX8_find) := gd_in wsC_sub wsC_good (gd_V wsCw_349 wsCw_350 wsCw_351 wsCw_257 wsCw_352)
theorem sC_X8_find {x : Cond} : (.instanceMethod yX8_find : Cond) ∈ x :: wsC := wsC_sub _ wsCw_350
theorem lC_X7_31 {x : Cond} : Cond.fieldLink RX7 31 RX10 "currency" "I" ∈ x :: wsC := wsC_sub _ wsCw_353
theorem lC_X7_36 {x : Cond} : Cond.fieldLink RX7 36 RX10 "rank" "I" ∈ x :: wsC := wsC_sub _ wsCw_354
theorem lC_X8_66 {x : Cond} : Cond.fieldLink RX8 66 RX7 "terms" "LMillstreamPayments$Terms;" ∈ x :: wsC := wsC_sub _ wsCw_355
theorem lC_X8_70 {x : Cond} : Cond.fieldLink RX8 70 RX10 "from" "I" ∈ x :: wsC := wsC_sub _ wsCw_356
theorem gC_X8_62 {x : Cond} : GoodIn (x :: wsC) (wsV RX8 62 RX7 yX7_isIn vX7_isIn) := gd_in wsC_sub wsC_good (gd_V wsCw_357 wsCw_358 wsCw_359 wsCw_291 wsCw_360)
theorem sC_X7_isIn {x : Cond} : (.instanceMethod yX7_isIn : Cond) ∈ x :: wsC := wsC_sub _ wsCw_358
theorem gC_X8_76 {x : Cond} : GoodIn (x :: wsC) (wsV RX8 76 RX7 yX7_isBehind vX7_isBehind) := gd_in wsC_sub wsC_good (gd_V wsCw_361 wsCw_362 wsCw_363 wsCw_291 wsCw_364)
theorem sC_X7_isBehind {x : Cond} : (.instanceMethod yX7_isBehind : Cond) ∈ x :: wsC := wsC_sub _ wsCw_362
theorem lC_X6_187 {x : Cond} : Cond.fieldLink RX6 187 RX7 "finalDay" "I" ∈ x :: wsC := wsC_sub _ wsCw_365
theorem gC_X6_181 {x : Cond} : GoodIn (x :: wsC) (wsV RX6 181 RX2 yX2_has vX2_has) := gd_in wsC_sub wsC_good (gd_V wsCw_366 wsCw_367 wsCw_368 wsCw_187 wsCw_369)
theorem sC_X2_has {x : Cond} : (.instanceMethod yX2_has : Cond) ∈ x :: wsC := wsC_sub _ wsCw_367
theorem gC_X6_190 {x : Cond} : GoodIn (x :: wsC) (wsV RX6 190 RX0 yX0_pay vX0_pay) := gd_in wsC_sub wsC_good (gd_V wsCw_370 wsCw_371 wsCw_372 wsCw_143 wsCw_373)
theorem sC_X0_pay {x : Cond} : (.instanceMethod yX0_pay : Cond) ∈ x :: wsC := wsC_sub _ wsCw_371
theorem gC_X6_194 {x : Cond} : GoodIn (x :: wsC) (wsV RX6 194 RX1 yX1_tell vX1_tell) := gd_in wsC_sub wsC_good (gd_V wsCw_374 wsCw_375 wsCw_376 wsCw_261 wsCw_377)
theorem sC_X1_tell {x : Cond} : (.instanceMethod yX1_tell : Cond) ∈ x :: wsC := wsC_sub _ wsCw_375
theorem lC_X6_147 {x : Cond} : Cond.fieldLink RX6 147 RX7 "leg" "LMillstreamPayments$Payment;" ∈ x :: wsC := wsC_sub _ wsCw_378
theorem gC_X6_133 {x : Cond} : GoodIn (x :: wsC) (wsV RX6 133 RX8 yX8_nextQueued vX8_nextQueued) := gd_in wsC_sub wsC_good (gd_V wsCw_379 wsCw_380 wsCw_381 wsCw_257 wsCw_382)
theorem sC_X8_nextQueued {x : Cond} : (.instanceMethod yX8_nextQueued : Cond) ∈ x :: wsC := wsC_sub _ wsCw_380
theorem gC_X6_137 {x : Cond} : GoodIn (x :: wsC) (wsV RX6 137 RX6 yX6_mayMove vX6_mayMove) := gd_in wsC_sub wsC_good (gd_V wsCw_383 wsCw_384 wsCw_385 wsCw_318 wsCw_386)
theorem sC_X6_mayMove {x : Cond} : (.instanceMethod yX6_mayMove : Cond) ∈ x :: wsC := wsC_sub _ wsCw_384
theorem gC_X6_141 {x : Cond} : GoodIn (x :: wsC) (wsV RX6 141 RX2 yX2_clear vX2_clear) := gd_in wsC_sub wsC_good (gd_V wsCw_387 wsCw_388 wsCw_389 wsCw_187 wsCw_390)
theorem sC_X2_clear {x : Cond} : (.instanceMethod yX2_clear : Cond) ∈ x :: wsC := wsC_sub _ wsCw_388
theorem gC_X6_144 {x : Cond} : GoodIn (x :: wsC) (wsV RX6 144 RX2 yX2_put vX2_put) := gd_in wsC_sub wsC_good (gd_V wsCw_391 wsCw_392 wsCw_393 wsCw_187 wsCw_394)
theorem sC_X2_put {x : Cond} : (.instanceMethod yX2_put : Cond) ∈ x :: wsC := wsC_sub _ wsCw_392
theorem gC_X6_151 {x : Cond} : GoodIn (x :: wsC) (wsV RX6 151 RX2 yX2_isWithinBounds vX2_isWithinBounds) := gd_in wsC_sub wsC_good (gd_V wsCw_395 wsCw_396 wsCw_397 wsCw_187 wsCw_398)
theorem sC_X2_isWithinBounds {x : Cond} : (.instanceMethod yX2_isWithinBounds : Cond) ∈ x :: wsC := wsC_sub _ wsCw_396
theorem gC_X6_155 {x : Cond} : GoodIn (x :: wsC) (wsV RX6 155 RX6 yX6_settleBatch vX6_settleBatch) := gd_in wsC_sub wsC_good (gd_V wsCw_399 wsCw_400 wsCw_401 wsCw_318 wsCw_402)
theorem sC_X6_settleBatch {x : Cond} : (.instanceMethod yX6_settleBatch : Cond) ∈ x :: wsC := wsC_sub _ wsCw_400
theorem gC_X6_129 {x : Cond} : GoodIn (x :: wsC) (wsV RX6 129 RX6 yX6_settleFirst vX6_settleFirst) := gd_in wsC_sub wsC_good (gd_V wsCw_403 wsCw_404 wsCw_405 wsCw_318 wsCw_406)
theorem sC_X6_settleFirst {x : Cond} : (.instanceMethod yX6_settleFirst : Cond) ∈ x :: wsC := wsC_sub _ wsCw_404
theorem gC_X6_184 {x : Cond} : GoodIn (x :: wsC) (wsV RX6 184 RX7 yX7_isBehind vX7_isBehind) := gd_in wsC_sub wsC_good (gd_V wsCw_407 wsCw_362 wsCw_363 wsCw_291 wsCw_364)
theorem gC_X6_169 {x : Cond} : GoodIn (x :: wsC) (wsV RX6 169 RX2 yX2_lowestTooLow vX2_lowestTooLow) := gd_in wsC_sub wsC_good (gd_V wsCw_408 wsCw_199 wsCw_200 wsCw_187 wsCw_201)
theorem gC_X6_173 {x : Cond} : GoodIn (x :: wsC) (wsV RX6 173 RX6 yX6_lastInBatch vX6_lastInBatch) := gd_in wsC_sub wsC_good (gd_V wsCw_409 wsCw_410 wsCw_411 wsCw_318 wsCw_412)
theorem sC_X6_lastInBatch {x : Cond} : (.instanceMethod yX6_lastInBatch : Cond) ∈ x :: wsC := wsC_sub _ wsCw_410
theorem gC_X6_177 {x : Cond} : GoodIn (x :: wsC) (wsV RX6 177 RX2 yX2_passesLimit vX2_passesLimit) := gd_in wsC_sub wsC_good (gd_V wsCw_413 wsCw_203 wsCw_204 wsCw_187 wsCw_205)
theorem gC_X6_158 {x : Cond} : GoodIn (x :: wsC) (wsV RX6 158 RX7 yX7_isIn vX7_isIn) := gd_in wsC_sub wsC_good (gd_V wsCw_414 wsCw_358 wsCw_359 wsCw_291 wsCw_360)
theorem gC_X6_162 {x : Cond} : GoodIn (x :: wsC) (wsV RX6 162 RX6 yX6_nextToTakeOut vX6_nextToTakeOut) := gd_in wsC_sub wsC_good (gd_V wsCw_415 wsCw_416 wsCw_417 wsCw_318 wsCw_418)
theorem sC_X6_nextToTakeOut {x : Cond} : (.instanceMethod yX6_nextToTakeOut : Cond) ∈ x :: wsC := wsC_sub _ wsCw_416
theorem gC_X6_166 {x : Cond} : GoodIn (x :: wsC) (wsV RX6 166 RX2 yX2_drop vX2_drop) := gd_in wsC_sub wsC_good (gd_V wsCw_419 wsCw_420 wsCw_421 wsCw_187 wsCw_422)
theorem sC_X2_drop {x : Cond} : (.instanceMethod yX2_drop : Cond) ∈ x :: wsC := wsC_sub _ wsCw_420
theorem lC_X7_43 {x : Cond} : Cond.fieldLink RX7 43 RX7 "leg" "LMillstreamPayments$Payment;" ∈ x :: wsC := wsC_sub _ wsCw_423
theorem gC_X7_39 {x : Cond} : GoodIn (x :: wsC) (wsV RX7 39 RX7 yX7_hasEnded vX7_hasEnded) := gd_in wsC_sub wsC_good (gd_V wsCw_424 wsCw_425 wsCw_426 wsCw_291 wsCw_427)
theorem sC_X7_hasEnded {x : Cond} : (.instanceMethod yX7_hasEnded : Cond) ∈ x :: wsC := wsC_sub _ wsCw_425
theorem lC_X6_213 {x : Cond} : Cond.fieldLink RX6 213 RX10 "stays" "Z" ∈ x :: wsC := wsC_sub _ wsCw_428
theorem gC_X6_216 {x : Cond} : GoodIn (x :: wsC) (wsV RX6 216 RX7 yX7_giveBack vX7_giveBack) := gd_in wsC_sub wsC_good (gd_V wsCw_429 wsCw_430 wsCw_431 wsCw_291 wsCw_432)
theorem sC_X7_giveBack {x : Cond} : (.instanceMethod yX7_giveBack : Cond) ∈ x :: wsC := wsC_sub _ wsCw_430
theorem lC_X8_93 {x : Cond} : Cond.fieldLink RX8 93 RX7 "finalDay" "I" ∈ x :: wsC := wsC_sub _ wsCw_433
theorem lC_X8_96 {x : Cond} : Cond.fieldLink RX8 96 RX10 "isReal" "Z" ∈ x :: wsC := wsC_sub _ wsCw_434
theorem gC_X6_241 {x : Cond} : GoodIn (x :: wsC) (wsV RX6 241 RX0 yX0_move vX0_move) := gd_in wsC_sub wsC_good (gd_V wsCw_435 wsCw_141 wsCw_142 wsCw_143 wsCw_144)
theorem kC_X6_237 {x : Cond} : (.constantLong RX6 237 (99) : Cond) ∈ x :: wsC := wsC_sub _ wsCw_437
theorem kC_X6_239 {x : Cond} : (.constantLong RX6 239 (100) : Cond) ∈ x :: wsC := wsC_sub _ wsCw_438
theorem gC_X6_219 {x : Cond} : GoodIn (x :: wsC) (wsV RX6 219 RX0 yX0_balanceOf vX0_balanceOf) := gd_in wsC_sub wsC_good (gd_V wsCw_439 wsCw_440 wsCw_441 wsCw_143 wsCw_442)
theorem sC_X0_balanceOf {x : Cond} : (.instanceMethod yX0_balanceOf : Cond) ∈ x :: wsC := wsC_sub _ wsCw_440
theorem gC_X6_229 {x : Cond} : GoodIn (x :: wsC) (wsV RX6 229 RX8 yX8_feesOf vX8_feesOf) := gd_in wsC_sub wsC_good (gd_V wsCw_443 wsCw_444 wsCw_445 wsCw_257 wsCw_446)
theorem sC_X8_feesOf {x : Cond} : (.instanceMethod yX8_feesOf : Cond) ∈ x :: wsC := wsC_sub _ wsCw_444
theorem gC_X6_233 {x : Cond} : GoodIn (x :: wsC) (wsV RX6 233 RX6 yX6_charge vX6_charge) := gd_in wsC_sub wsC_good (gd_V wsCw_447 wsCw_448 wsCw_449 wsCw_318 wsCw_450)
theorem sC_X6_charge {x : Cond} : (.instanceMethod yX6_charge : Cond) ∈ x :: wsC := wsC_sub _ wsCw_448
theorem gC_X6_198 {x : Cond} : GoodIn (x :: wsC) (wsV RX6 198 RX6 yX6_settleMost vX6_settleMost) := gd_in wsC_sub wsC_good (gd_V wsCw_451 wsCw_452 wsCw_453 wsCw_318 wsCw_454)
theorem sC_X6_settleMost {x : Cond} : (.instanceMethod yX6_settleMost : Cond) ∈ x :: wsC := wsC_sub _ wsCw_452
theorem gC_X6_201 {x : Cond} : GoodIn (x :: wsC) (wsV RX6 201 RX6 yX6_giveBackWhatMayNotStay vX6_giveBackWhatMayNotStay) := gd_in wsC_sub wsC_good (gd_V wsCw_455 wsCw_456 wsCw_457 wsCw_318 wsCw_458)
theorem sC_X6_giveBackWhatMayNotStay {x : Cond} : (.instanceMethod yX6_giveBackWhatMayNotStay : Cond) ∈ x :: wsC := wsC_sub _ wsCw_456
theorem gC_X6_204 {x : Cond} : GoodIn (x :: wsC) (wsV RX6 204 RX6 yX6_chargeBanks vX6_chargeBanks) := gd_in wsC_sub wsC_good (gd_V wsCw_459 wsCw_460 wsCw_461 wsCw_318 wsCw_462)
theorem sC_X6_chargeBanks {x : Cond} : (.instanceMethod yX6_chargeBanks : Cond) ∈ x :: wsC := wsC_sub _ wsCw_460
theorem gC_X6_207 {x : Cond} : GoodIn (x :: wsC) (wsV RX6 207 RX0 yX0_beginDay vX0_beginDay) := gd_in wsC_sub wsC_good (gd_V wsCw_463 wsCw_464 wsCw_465 wsCw_143 wsCw_466)
theorem sC_X0_beginDay {x : Cond} : (.instanceMethod yX0_beginDay : Cond) ∈ x :: wsC := wsC_sub _ wsCw_464
theorem gC_X6_210 {x : Cond} : GoodIn (x :: wsC) (wsV RX6 210 RX6 yX6_letWaitingEnter vX6_letWaitingEnter) := gd_in wsC_sub wsC_good (gd_V wsCw_467 wsCw_468 wsCw_469 wsCw_318 wsCw_470)
theorem sC_X6_letWaitingEnter {x : Cond} : (.instanceMethod yX6_letWaitingEnter : Cond) ∈ x :: wsC := wsC_sub _ wsCw_468
theorem lC_X7_47 {x : Cond} : Cond.fieldLink RX7 47 RX10 "isReal" "Z" ∈ x :: wsC := wsC_sub _ wsCw_471
theorem gC_X7_51 {x : Cond} : GoodIn (x :: wsC) (wsV RX7 51 RX10 yX10_isWayBackOf vX10_isWayBackOf) := gd_in wsC_sub wsC_good (gd_V wsCw_472 wsCw_473 wsCw_474 wsCw_332 wsCw_475)
theorem sC_X10_isWayBackOf {x : Cond} : (.instanceMethod yX10_isWayBackOf : Cond) ∈ x :: wsC := wsC_sub _ wsCw_473
theorem gC_X8_50 {x : Cond} : GoodIn (x :: wsC) (wsV RX8 50 RX9 yX9_at vX9_at) := gd_in wsC_sub wsC_good (gd_V wsCw_476 wsCw_55 wsCw_56 wsCw_36 wsCw_57)
theorem gC_X8_54 {x : Cond} : GoodIn (x :: wsC) (wsV RX8 54 RX8 yX8_find vX8_find) := gd_in wsC_sub wsC_good (gd_V wsCw_477 wsCw_350 wsCw_351 wsCw_257 wsCw_352)
theorem gC_X8_58 {x : Cond} : GoodIn (x :: wsC) (wsV RX8 58 RX9 yX9_put vX9_put) := gd_in wsC_sub wsC_good (gd_V wsCw_478 wsCw_59 wsCw_60 wsCw_36 wsCw_61)
theorem lC_X8_90 {x : Cond} : Cond.fieldLink RX8 90 RX7 "number" "I" ∈ x :: wsC := wsC_sub _ wsCw_480
theorem gC_X8_80 {x : Cond} : GoodIn (x :: wsC) (wsV RX8 80 RX8 yX8_nextQueued vX8_nextQueued) := gd_in wsC_sub wsC_good (gd_V wsCw_481 wsCw_380 wsCw_381 wsCw_257 wsCw_382)
theorem hC_X11_7 {x : Cond} : (.classLink RX11 7 RX6 : Cond) ∈ x :: wsC := wsC_sub _ wsCw_483
theorem nC_X6 {x : Cond} : (.instantiable RX6 8 : Cond) ∈ x :: wsC := wsC_sub _ wsCw_484
theorem lC_X11_10 {x : Cond} : Cond.fieldLink RX11 10 RX11 "exchange" "LMillstreamPayments$Exchange;" ∈ x :: wsC := wsC_sub _ wsCw_485
theorem sC_X6_init {x : Cond} : (.instanceMethod yX6_init : Cond) ∈ x :: wsC := wsC_sub _ wsCw_486
theorem hC_X11_213 {x : Cond} : (.classLink RX11 213 "java/lang/IndexOutOfBoundsException" : Cond) ∈ x :: wsC := wsC_sub _ wsCw_488
theorem hC_X11_252 {x : Cond} : (.classLink RX11 252 "java/lang/IllegalArgumentException" : Cond) ∈ x :: wsC := wsC_sub _ wsCw_490
theorem kC_X11_20 {x : Cond} : (.constant RX11 20 (1000000) : Cond) ∈ x :: wsC := wsC_sub _ wsCw_492
theorem lC_X11_25 {x : Cond} : Cond.fieldLink RX11 25 RX6 "accounts" "LMillstreamPayments$Accounts;" ∈ x :: wsC := wsC_sub _ wsCw_493
theorem gC_X11_16 {x : Cond} : GoodIn (x :: wsC) (va_wsS RX11 16 yX11_needPlace vX11_needPlace) := gd_in wsC_sub wsC_good (gd_S wsCw_494 wsCw_495 wsCw_52 wsCw_496)
theorem sC_X11_needPlace {x : Cond} : (.static yX11_needPlace : Cond) ∈ x :: wsC := wsC_sub _ wsCw_495
theorem gC_X11_21 {x : Cond} : GoodIn (x :: wsC) (va_wsS RX11 21 yX11_needRange vX11_needRange) := gd_in wsC_sub wsC_good (gd_S wsCw_497 wsCw_498 wsCw_52 wsCw_499)
theorem sC_X11_needRange {x : Cond} : (.static yX11_needRange : Cond) ∈ x :: wsC := wsC_sub _ wsCw_498
theorem gC_X11_29 {x : Cond} : GoodIn (x :: wsC) (wsV RX11 29 RX0 yX0_move vX0_move) := gd_in wsC_sub wsC_good (gd_V wsCw_500 wsCw_141 wsCw_142 wsCw_143 wsCw_144)
theorem gC_X11_35 {x : Cond} : GoodIn (x :: wsC) (wsV RX11 35 RX6 yX6_runQueues vX6_runQueues) := gd_in wsC_sub wsC_good (gd_V wsCw_501 wsCw_502 wsCw_503 wsCw_318 wsCw_504)
theorem sC_X6_runQueues {x : Cond} : (.instanceMethod yX6_runQueues : Cond) ∈ x :: wsC := wsC_sub _ wsCw_502
theorem gC_X11_39 {x : Cond} : GoodIn (x :: wsC) (wsV RX11 39 RX0 yX0_balanceOf vX0_balanceOf) := gd_in wsC_sub wsC_good (gd_V wsCw_505 wsCw_440 wsCw_441 wsCw_143 wsCw_442)
theorem gC_X11_43 {x : Cond} : GoodIn (x :: wsC) (wsV RX11 43 RX0 yX0_changeLine vX0_changeLine) := gd_in wsC_sub wsC_good (gd_V wsCw_506 wsCw_507 wsCw_508 wsCw_143 wsCw_509)
theorem sC_X0_changeLine {x : Cond} : (.instanceMethod yX0_changeLine : Cond) ∈ x :: wsC := wsC_sub _ wsCw_507
theorem gC_X11_47 {x : Cond} : GoodIn (x :: wsC) (va_wsS RX11 47 yX11_needTwoBanks vX11_needTwoBanks) := gd_in wsC_sub wsC_good (gd_S wsCw_510 wsCw_511 wsCw_52 wsCw_512)
theorem sC_X11_needTwoBanks {x : Cond} : (.static yX11_needTwoBanks : Cond) ∈ x :: wsC := wsC_sub _ wsCw_511
theorem gC_X11_50 {x : Cond} : GoodIn (x :: wsC) (va_wsS RX11 50 yX11_pairSlot vX11_pairSlot) := gd_in wsC_sub wsC_good (gd_S wsCw_513 wsCw_145 wsCw_52 wsCw_146)
theorem gC_X11_53 {x : Cond} : GoodIn (x :: wsC) (wsV RX11 53 RX0 yX0_changeLimit vX0_changeLimit) := gd_in wsC_sub wsC_good (gd_V wsCw_514 wsCw_515 wsCw_516 wsCw_143 wsCw_517)
theorem sC_X0_changeLimit {x : Cond} : (.instanceMethod yX0_changeLimit : Cond) ∈ x :: wsC := wsC_sub _ wsCw_515
theorem lC_X11_57 {x : Cond} : Cond.fieldLink RX11 57 RX6 "outages" "LMillstreamPayments$Row;" ∈ x :: wsC := wsC_sub _ wsCw_518
theorem gC_X11_61 {x : Cond} : GoodIn (x :: wsC) (wsV RX11 61 RX9 yX9_isSet vX9_isSet) := gd_in wsC_sub wsC_good (gd_V wsCw_519 wsCw_170 wsCw_171 wsCw_36 wsCw_172)
theorem gC_X11_67 {x : Cond} : GoodIn (x :: wsC) (wsV RX11 67 RX9 yX9_mark vX9_mark) := gd_in wsC_sub wsC_good (gd_V wsCw_520 wsCw_181 wsCw_182 wsCw_36 wsCw_183)
theorem lC_X11_71 {x : Cond} : Cond.fieldLink RX11 71 RX6 "calendar" "LMillstreamPayments$Calendar;" ∈ x :: wsC := wsC_sub _ wsCw_521
theorem gC_X11_75 {x : Cond} : GoodIn (x :: wsC) (wsV RX11 75 RX4 yX4_changeHoliday vX4_changeHoliday) := gd_in wsC_sub wsC_good (gd_V wsCw_522 wsCw_523 wsCw_524 wsCw_237 wsCw_525)
theorem sC_X4_changeHoliday {x : Cond} : (.instanceMethod yX4_changeHoliday : Cond) ∈ x :: wsC := wsC_sub _ wsCw_523
theorem gC_X11_81 {x : Cond} : GoodIn (x :: wsC) (wsV RX11 81 RX4 yX4_isOpen vX4_isOpen) := gd_in wsC_sub wsC_good (gd_V wsCw_526 wsCw_235 wsCw_236 wsCw_237 wsCw_238)
theorem lC_X11_85 {x : Cond} : Cond.fieldLink RX11 85 RX6 "listed" "LMillstreamPayments$Row;" ∈ x :: wsC := wsC_sub _ wsCw_527
theorem gC_X11_88 {x : Cond} : GoodIn (x :: wsC) (wsV RX11 88 RX6 yX6_holdPaymentsFor vX6_holdPaymentsFor) := gd_in wsC_sub wsC_good (gd_V wsCw_528 wsCw_529 wsCw_530 wsCw_318 wsCw_531)
theorem sC_X6_holdPaymentsFor {x : Cond} : (.instanceMethod yX6_holdPaymentsFor : Cond) ∈ x :: wsC := wsC_sub _ wsCw_529
theorem hC_X11_259 {x : Cond} : (.classLink RX11 259 "java/lang/IllegalStateException" : Cond) ∈ x :: wsC := wsC_sub _ wsCw_532
theorem hC_X11_96 {x : Cond} : (.classLink RX11 96 RX10 : Cond) ∈ x :: wsC := wsC_sub _ wsCw_534
theorem lC_X11_105 {x : Cond} : Cond.fieldLink RX11 105 RX6 "register" "LMillstreamPayments$Register;" ∈ x :: wsC := wsC_sub _ wsCw_535
theorem lC_X11_115 {x : Cond} : Cond.fieldLink RX11 115 RX7 "terms" "LMillstreamPayments$Terms;" ∈ x :: wsC := wsC_sub _ wsCw_536
theorem lC_X11_125 {x : Cond} : Cond.fieldLink RX11 125 RX6 "doubles" "I" ∈ x :: wsC := wsC_sub _ wsCw_537
theorem lC_X11_129 {x : Cond} : Cond.fieldLink RX11 129 RX7 "number" "I" ∈ x :: wsC := wsC_sub _ wsCw_538
theorem gC_X11_92 {x : Cond} : GoodIn (x :: wsC) (va_wsS RX11 92 yX11_needState vX11_needState) := gd_in wsC_sub wsC_good (gd_S wsCw_539 wsCw_540 wsCw_52 wsCw_541)
theorem sC_X11_needState {x : Cond} : (.static yX11_needState : Cond) ∈ x :: wsC := wsC_sub _ wsCw_540
theorem gC_X11_98 {x : Cond} : (.methodLink RX11 98 yX10_init : Cond) ∈ x :: wsC := wsC_sub _ wsCw_542
theorem gC_X11_101 {x : Cond} : GoodIn (x :: wsC) (wsV RX11 101 RX10 yX10_arrange vX10_arrange) := gd_in wsC_sub wsC_good (gd_V wsCw_543 wsCw_340 wsCw_341 wsCw_332 wsCw_342)
theorem gC_X11_109 {x : Cond} : GoodIn (x :: wsC) (wsV RX11 109 RX8 yX8_toldBy vX8_toldBy) := gd_in wsC_sub wsC_good (gd_V wsCw_544 wsCw_545 wsCw_546 wsCw_257 wsCw_547)
theorem sC_X8_toldBy {x : Cond} : (.instanceMethod yX8_toldBy : Cond) ∈ x :: wsC := wsC_sub _ wsCw_545
theorem gC_X11_121 {x : Cond} : GoodIn (x :: wsC) (wsV RX11 121 RX10 yX10_isLike vX10_isLike) := gd_in wsC_sub wsC_good (gd_V wsCw_548 wsCw_549 wsCw_550 wsCw_332 wsCw_551)
theorem sC_X10_isLike {x : Cond} : (.instanceMethod yX10_isLike : Cond) ∈ x :: wsC := wsC_sub _ wsCw_549
theorem gC_X11_132 {x : Cond} : GoodIn (x :: wsC) (wsV RX11 132 RX8 yX8_isFull vX8_isFull) := gd_in wsC_sub wsC_good (gd_V wsCw_552 wsCw_553 wsCw_554 wsCw_257 wsCw_555)
theorem sC_X8_isFull {x : Cond} : (.instanceMethod yX8_isFull : Cond) ∈ x :: wsC := wsC_sub _ wsCw_553
theorem gC_X11_136 {x : Cond} : GoodIn (x :: wsC) (wsV RX11 136 RX6 yX6_bringIn vX6_bringIn) := gd_in wsC_sub wsC_good (gd_V wsCw_556 wsCw_557 wsCw_558 wsCw_318 wsCw_559)
theorem sC_X6_bringIn {x : Cond} : (.instanceMethod yX6_bringIn : Cond) ∈ x :: wsC := wsC_sub _ wsCw_557
theorem gC_X11_140 {x : Cond} : GoodIn (x :: wsC) (wsV RX11 140 RX8 yX8_keepMessage vX8_keepMessage) := gd_in wsC_sub wsC_good (gd_V wsCw_560 wsCw_561 wsCw_562 wsCw_257 wsCw_563)
theorem sC_X8_keepMessage {x : Cond} : (.instanceMethod yX8_keepMessage : Cond) ∈ x :: wsC := wsC_sub _ wsCw_561
theorem gC_X11_264 {x : Cond} : GoodIn (x :: wsC) (wsV RX11 264 RX8 yX8_find vX8_find) := gd_in wsC_sub wsC_good (gd_V wsCw_564 wsCw_350 wsCw_351 wsCw_257 wsCw_352)
theorem lC_X11_151 {x : Cond} : Cond.fieldLink RX11 151 RX7 "leg" "LMillstreamPayments$Payment;" ∈ x :: wsC := wsC_sub _ wsCw_565
theorem gC_X11_143 {x : Cond} : GoodIn (x :: wsC) (wsV RX11 143 RX11 yX11_needPayment vX11_needPayment) := gd_in wsC_sub wsC_good (gd_V wsCw_566 wsCw_567 wsCw_568 wsCw_52 wsCw_569)
theorem sC_X11_needPayment {x : Cond} : (.instanceMethod yX11_needPayment : Cond) ∈ x :: wsC := wsC_sub _ wsCw_567
theorem gC_X11_147 {x : Cond} : GoodIn (x :: wsC) (wsV RX11 147 RX7 yX7_canBeLegWith vX7_canBeLegWith) := gd_in wsC_sub wsC_good (gd_V wsCw_570 wsCw_571 wsCw_572 wsCw_291 wsCw_573)
theorem sC_X7_canBeLegWith {x : Cond} : (.instanceMethod yX7_canBeLegWith : Cond) ∈ x :: wsC := wsC_sub _ wsCw_571
theorem gC_X11_155 {x : Cond} : GoodIn (x :: wsC) (wsV RX11 155 RX7 yX7_hasEnded vX7_hasEnded) := gd_in wsC_sub wsC_good (gd_V wsCw_574 wsCw_425 wsCw_426 wsCw_291 wsCw_427)
theorem gC_X11_158 {x : Cond} : GoodIn (x :: wsC) (wsV RX11 158 RX7 yX7_giveBack vX7_giveBack) := gd_in wsC_sub wsC_good (gd_V wsCw_575 wsCw_430 wsCw_431 wsCw_291 wsCw_432)
theorem lC_X11_161 {x : Cond} : Cond.fieldLink RX11 161 RX7 "state" "I" ∈ x :: wsC := wsC_sub _ wsCw_576
theorem lC_X11_164 {x : Cond} : Cond.fieldLink RX11 164 RX7 "officer" "I" ∈ x :: wsC := wsC_sub _ wsCw_577
theorem lC_X11_167 {x : Cond} : Cond.fieldLink RX11 167 RX7 "isReleased" "Z" ∈ x :: wsC := wsC_sub _ wsCw_578
theorem gC_X11_171 {x : Cond} : GoodIn (x :: wsC) (wsV RX11 171 RX6 yX6_letEnter vX6_letEnter) := gd_in wsC_sub wsC_good (gd_V wsCw_579 wsCw_316 wsCw_317 wsCw_318 wsCw_319)
theorem gC_X11_175 {x : Cond} : GoodIn (x :: wsC) (wsV RX11 175 RX6 yX6_settleMost vX6_settleMost) := gd_in wsC_sub wsC_good (gd_V wsCw_580 wsCw_452 wsCw_453 wsCw_318 wsCw_454)
theorem lC_X11_178 {x : Cond} : Cond.fieldLink RX11 178 RX4 "day" "I" ∈ x :: wsC := wsC_sub _ wsCw_581
theorem lC_X11_181 {x : Cond} : Cond.fieldLink RX11 181 RX7 "finalDay" "I" ∈ x :: wsC := wsC_sub _ wsCw_582
theorem lC_X11_184 {x : Cond} : Cond.fieldLink RX11 184 RX7 "lastAnswerDay" "I" ∈ x :: wsC := wsC_sub _ wsCw_583
theorem lC_X11_187 {x : Cond} : Cond.fieldLink RX11 187 RX7 "isAnswered" "Z" ∈ x :: wsC := wsC_sub _ wsCw_584
theorem gC_X11_190 {x : Cond} : GoodIn (x :: wsC) (wsV RX11 190 RX6 yX6_termsBack vX6_termsBack) := gd_in wsC_sub wsC_good (gd_V wsCw_585 wsCw_586 wsCw_587 wsCw_318 wsCw_588)
theorem sC_X6_termsBack {x : Cond} : (.instanceMethod yX6_termsBack : Cond) ∈ x :: wsC := wsC_sub _ wsCw_586
theorem gC_X11_194 {x : Cond} : GoodIn (x :: wsC) (wsV RX11 194 RX6 yX6_closeDay vX6_closeDay) := gd_in wsC_sub wsC_good (gd_V wsCw_589 wsCw_590 wsCw_591 wsCw_318 wsCw_592)
theorem sC_X6_closeDay {x : Cond} : (.instanceMethod yX6_closeDay : Cond) ∈ x :: wsC := wsC_sub _ wsCw_590
theorem lC_X11_197 {x : Cond} : Cond.fieldLink RX11 197 RX0 "book" "LMillstreamPayments$Book;" ∈ x :: wsC := wsC_sub _ wsCw_593
theorem gC_X11_201 {x : Cond} : GoodIn (x :: wsC) (wsV RX11 201 RX3 yX3_sumOf vX3_sumOf) := gd_in wsC_sub wsC_good (gd_V wsCw_594 wsCw_595 wsCw_596 wsCw_32 wsCw_597)
theorem sC_X3_sumOf {x : Cond} : (.instanceMethod yX3_sumOf : Cond) ∈ x :: wsC := wsC_sub _ wsCw_595
theorem gC_X11_206 {x : Cond} : GoodIn (x :: wsC) (wsV RX11 206 RX0 yX0_paidOf vX0_paidOf) := gd_in wsC_sub wsC_good (gd_V wsCw_598 wsCw_599 wsCw_600 wsCw_143 wsCw_601)
theorem sC_X0_paidOf {x : Cond} : (.instanceMethod yX0_paidOf : Cond) ∈ x :: wsC := wsC_sub _ wsCw_599
theorem gC_X11_210 {x : Cond} : GoodIn (x :: wsC) (wsV RX11 210 RX8 yX8_count vX8_count) := gd_in wsC_sub wsC_good (gd_V wsCw_602 wsCw_346 wsCw_347 wsCw_257 wsCw_348)
theorem gC_X11_220 {x : Cond} : GoodIn (x :: wsC) (wsV RX11 220 RX8 yX8_queuedAt vX8_queuedAt) := gd_in wsC_sub wsC_good (gd_V wsCw_603 wsCw_604 wsCw_605 wsCw_257 wsCw_606)
theorem sC_X8_queuedAt {x : Cond} : (.instanceMethod yX8_queuedAt : Cond) ∈ x :: wsC := wsC_sub _ wsCw_604
theorem gC_X11_223 {x : Cond} : GoodIn (x :: wsC) (wsV RX11 223 RX3 yX3_count vX3_count) := gd_in wsC_sub wsC_good (gd_V wsCw_607 wsCw_608 wsCw_609 wsCw_32 wsCw_610)
theorem sC_X3_count {x : Cond} : (.instanceMethod yX3_count : Cond) ∈ x :: wsC := wsC_sub _ wsCw_608
theorem gC_X11_224 {x : Cond} : GoodIn (x :: wsC) (wsV RX11 224 RX3 yX3_find vX3_find) := gd_in wsC_sub wsC_good (gd_V wsCw_611 wsCw_612 wsCw_613 wsCw_32 wsCw_614)
theorem sC_X3_find {x : Cond} : (.instanceMethod yX3_find : Cond) ∈ x :: wsC := wsC_sub _ wsCw_612
theorem gC_X11_232 {x : Cond} : GoodIn (x :: wsC) (wsV RX11 232 RX5 yX5_part vX5_part) := gd_in wsC_sub wsC_good (gd_V wsCw_615 wsCw_616 wsCw_617 wsCw_124 wsCw_618)
theorem sC_X5_part {x : Cond} : (.instanceMethod yX5_part : Cond) ∈ x :: wsC := wsC_sub _ wsCw_616
theorem lC_X11_235 {x : Cond} : Cond.fieldLink RX11 235 RX6 "advices" "LMillstreamPayments$Advices;" ∈ x :: wsC := wsC_sub _ wsCw_619
theorem gC_X11_239 {x : Cond} : GoodIn (x :: wsC) (wsV RX11 239 RX1 yX1_takeNext vX1_takeNext) := gd_in wsC_sub wsC_good (gd_V wsCw_620 wsCw_621 wsCw_622 wsCw_261 wsCw_623)
theorem sC_X1_takeNext {x : Cond} : (.instanceMethod yX1_takeNext : Cond) ∈ x :: wsC := wsC_sub _ wsCw_621
theorem gC_X11_244 {x : Cond} : GoodIn (x :: wsC) (wsV RX11 244 RX1 yX1_mostTaken vX1_mostTaken) := gd_in wsC_sub wsC_good (gd_V wsCw_624 wsCw_625 wsCw_626 wsCw_261 wsCw_627)
theorem sC_X1_mostTaken {x : Cond} : (.instanceMethod yX1_mostTaken : Cond) ∈ x :: wsC := wsC_sub _ wsCw_625
theorem gC_X11_247 {x : Cond} : GoodIn (x :: wsC) (wsV RX11 247 RX1 yX1_startFrom vX1_startFrom) := gd_in wsC_sub wsC_good (gd_V wsCw_628 wsCw_629 wsCw_630 wsCw_261 wsCw_631)
theorem sC_X1_startFrom {x : Cond} : (.instanceMethod yX1_startFrom : Cond) ∈ x :: wsC := wsC_sub _ wsCw_629
theorem gC_X11_accountSlot {x : Cond} : GoodIn (x :: wsC) vX11_accountSlot := gd_in wsC_sub wsC_good (List.forall_mem_cons.mpr ⟨wsCw_53, fun _ h => h⟩)
theorem gC_X11_pairSlot {x : Cond} : GoodIn (x :: wsC) vX11_pairSlot := gd_in wsC_sub wsC_good (List.forall_mem_cons.mpr ⟨wsCw_146, fun _ h => h⟩)
theorem gC_X6_init {x : Cond} : GoodIn (x :: wsC) vX6_init := gd_in wsC_sub wsC_good (List.forall_mem_cons.mpr ⟨wsCw_487, fun _ h => h⟩)
theorem gC_X3_init {x : Cond} : GoodIn (x :: wsC) vX3_init := gd_in wsC_sub wsC_good (List.forall_mem_cons.mpr ⟨wsCw_43, fun _ h => h⟩)
theorem gC_X4_init {x : Cond} : GoodIn (x :: wsC) vX4_init := gd_in wsC_sub wsC_good (List.forall_mem_cons.mpr ⟨wsCw_270, fun _ h => h⟩)
theorem gC_X1_init {x : Cond} : GoodIn (x :: wsC) vX1_init := gd_in wsC_sub wsC_good (List.forall_mem_cons.mpr ⟨wsCw_278, fun _ h => h⟩)
theorem gC_X2_init {x : Cond} : GoodIn (x :: wsC) vX2_init := gd_in wsC_sub wsC_good (List.forall_mem_cons.mpr ⟨wsCw_281, fun _ h => h⟩)
theorem wC_0 {x : Cond} : (.methodLink RJxa1e45 1 objectInit : Cond) ∈ x :: wsC := wsC_sub _ wsCw_0
theorem wC_1 {x : Cond} : (.instanceMethod objectInit : Cond) ∈ x :: wsC := wsC_sub _ wsCw_1
theorem wC_2 {x : Cond} : (.code objectInit ⟨#[0xb1]⟩ 1 none : Cond) ∈ x :: wsC := wsC_sub _ wsCw_2
theorem wC_14 {x : Cond} : (.methodLink RX3 3 objectInit : Cond) ∈ x :: wsC := wsC_sub _ wsCw_14
theorem wC_22 {x : Cond} : (.methodLink RX9 1 objectInit : Cond) ∈ x :: wsC := wsC_sub _ wsCw_22
theorem wC_23 {x : Cond} : (.methodLink RX9 7 Lib.Math.max.name : Cond) ∈ x :: wsC := wsC_sub _ wsCw_23
theorem wC_24 {x : Cond} : (.static Lib.Math.max.name : Cond) ∈ x :: wsC := wsC_sub _ wsCw_24
theorem wC_25 {x : Cond} : (.initialized "java/lang/Math" : Cond) ∈ x :: wsC := wsC_sub _ wsCw_25
theorem wC_26 {x : Cond} : (.code Lib.Math.max.name Lib.Math.max.code 2 (some .int) : Cond) ∈ x :: wsC := wsC_sub _ wsCw_26
theorem wC_29 {x : Cond} : (.methodLink RX0 3 objectInit : Cond) ∈ x :: wsC := wsC_sub _ wsCw_29
theorem wC_62 {x : Cond} : (.methodLink RX5 1 objectInit : Cond) ∈ x :: wsC := wsC_sub _ wsCw_62
theorem wC_70 {x : Cond} : (.methodLink RJ8 194 Lib.Math.max.name : Cond) ∈ x :: wsC := wsC_sub _ wsCw_70
theorem wC_76 {x : Cond} : (.classLink RJ7 2 "java/lang/Object" : Cond) ∈ x :: wsC := wsC_sub _ wsCw_76
theorem wC_77 {x : Cond} : (.methodLink RJ7 304 Lib.Math.min.name : Cond) ∈ x :: wsC := wsC_sub _ wsCw_77
theorem wC_78 {x : Cond} : (.static Lib.Math.min.name : Cond) ∈ x :: wsC := wsC_sub _ wsCw_78
theorem wC_79 {x : Cond} : (.code Lib.Math.min.name Lib.Math.min.code 2 (some .int) : Cond) ∈ x :: wsC := wsC_sub _ wsCw_79
theorem wC_80 {x : Cond} : (.methodLink RJ7 150 arraycopyName : Cond) ∈ x :: wsC := wsC_sub _ wsCw_80
theorem wC_81 {x : Cond} : (.native arraycopyName : Cond) ∈ x :: wsC := wsC_sub _ wsCw_81
theorem wC_82 {x : Cond} : (.static arraycopyName : Cond) ∈ x :: wsC := wsC_sub _ wsCw_82
theorem wC_83 {x : Cond} : (.initialized "java/lang/System" : Cond) ∈ x :: wsC := wsC_sub _ wsCw_83
theorem wC_84 {x : Cond} : (.methodLink RJ7 86 ⟨"java/lang/Object", "getClass", "()Ljava/lang/Class;"⟩ : Cond) ∈ x :: wsC := wsC_sub _ wsCw_84
theorem wC_85 {x : Cond} : (.selects "[Ljava/lang/Object;" ⟨"java/lang/Object", "getClass", "()Ljava/lang/Class;"⟩ ⟨"java/lang/Object", "getClass", "()Ljava/lang/Class;"⟩ : Cond) ∈ x :: wsC := wsC_sub _ wsCw_85
theorem wC_86 {x : Cond} : (.instanceMethod ⟨"java/lang/Object", "getClass", "()Ljava/lang/Class;"⟩ : Cond) ∈ x :: wsC := wsC_sub _ wsCw_86
theorem wC_87 {x : Cond} : (.native ⟨"java/lang/Object", "getClass", "()Ljava/lang/Class;"⟩ : Cond) ∈ x :: wsC := wsC_sub _ wsCw_87
theorem wC_91 {x : Cond} : (.code yJ7_copyOf_6403c cJ7_copyOf_6403c 4 (some (.array (.object "java/lang/Object"))) : Cond) ∈ x :: wsC := wsC_sub _ wsCw_91
theorem wC_92 {x : Cond} : (.methodLink RJx4a65c 79 Lib.Math.max.name : Cond) ∈ x :: wsC := wsC_sub _ wsCw_92
theorem wC_93 {x : Cond} : (.classLink RJx4a65c 7 "java/lang/Object" : Cond) ∈ x :: wsC := wsC_sub _ wsCw_93
theorem wC_99 {x : Cond} : (.code yJ7_copyOf_1904c cJ7_copyOf_1904c 2 (some (.array (.object "java/lang/Object"))) : Cond) ∈ x :: wsC := wsC_sub _ wsCw_99
theorem wC_103 {x : Cond} : (.code yJx4a65c_grow_92f84 cJx4a65c_grow_92f84 4 (some (.array (.object "java/lang/Object"))) : Cond) ∈ x :: wsC := wsC_sub _ wsCw_103
theorem wC_107 {x : Cond} : (.code yJx4a65c_grow_d5877 cJx4a65c_grow_d5877 1 (some (.array (.object "java/lang/Object"))) : Cond) ∈ x :: wsC := wsC_sub _ wsCw_107
theorem wC_109 {x : Cond} : (.sameField "java/util/ArrayList" "java/util/AbstractList" "modCount" "I" : Cond) ∈ x :: wsC := wsC_sub _ wsCw_109
theorem wC_147 {x : Cond} : (.methodLink RX1 3 objectInit : Cond) ∈ x :: wsC := wsC_sub _ wsCw_147
theorem wC_158 {x : Cond} : (.methodLink RX1 42 Lib.MathLoose.max_long.x : Cond) ∈ x :: wsC := wsC_sub _ wsCw_158
theorem wC_159 {x : Cond} : (.static Lib.MathLoose.max_long.x : Cond) ∈ x :: wsC := wsC_sub _ wsCw_159
theorem wC_160 {x : Cond} : (.code Lib.MathLoose.max_long.x Lib.MathLoose.max_long.code 4 (some .long) : Cond) ∈ x :: wsC := wsC_sub _ wsCw_160
theorem wC_161 {x : Cond} : (.methodLink RX2 3 objectInit : Cond) ∈ x :: wsC := wsC_sub _ wsCw_161
theorem wC_217 {x : Cond} : (.code yJx4a65c_elementData_915e3 cJx4a65c_elementData_915e3 2 (some (.object "java/lang/Object")) : Cond) ∈ x :: wsC := wsC_sub _ wsCw_217
theorem wC_222 {x : Cond} : (.code yJx4a65c_get_915e3 cJx4a65c_get_915e3 2 (some (.object "java/lang/Object")) : Cond) ∈ x :: wsC := wsC_sub _ wsCw_222
theorem wC_227 {x : Cond} : (.methodLink RX4 3 objectInit : Cond) ∈ x :: wsC := wsC_sub _ wsCw_227
theorem wC_239 {x : Cond} : (.methodLink RX8 3 objectInit : Cond) ∈ x :: wsC := wsC_sub _ wsCw_239
theorem wC_248 {x : Cond} : (.methodLink RX6 3 objectInit : Cond) ∈ x :: wsC := wsC_sub _ wsCw_248
theorem wC_282 {x : Cond} : (.methodLink RX7 3 objectInit : Cond) ∈ x :: wsC := wsC_sub _ wsCw_282
theorem wC_320 {x : Cond} : (.methodLink RX10 1 objectInit : Cond) ∈ x :: wsC := wsC_sub _ wsCw_320
theorem wC_436 {x : Cond} : (.methodLink RX6 223 Lib.MathLoose.max_long.x : Cond) ∈ x :: wsC := wsC_sub _ wsCw_436
theorem wC_479 {x : Cond} : (.methodLink RX8 84 Lib.Math.min.name : Cond) ∈ x :: wsC := wsC_sub _ wsCw_479
theorem wC_482 {x : Cond} : (.methodLink RX11 1 objectInit : Cond) ∈ x :: wsC := wsC_sub _ wsCw_482
end
section
theorem dX0_init_0 : decode cX0_init 0 = .ok (.aload_n 0, 1) := by decide +kernel
theorem dX0_init_1 : decode cX0_init 1 = .ok (.invokespecial 3, 3) := by decide +kernel
theorem dX0_init_4 : decode cX0_init 4 = .ok (.aload_n 0, 1) := by decide +kernel
theorem dX0_init_5 : decode cX0_init 5 = .ok (.new 9, 3) := by decide +kernel
theorem dX0_init_8 : decode cX0_init 8 = .ok (.dup, 1) := by decide +kernel
theorem dX0_init_9 : decode cX0_init 9 = .ok (.invokespecial 11, 3) := by decide +kernel
theorem dX0_init_12 : decode cX0_init 12 = .ok (.putfield 12, 3) := by decide +kernel
theorem dX0_init_15 : decode cX0_init 15 = .ok (.aload_n 0, 1) := by decide +kernel
theorem dX0_init_16 : decode cX0_init 16 = .ok (.new 18, 3) := by decide +kernel
theorem dX0_init_19 : decode cX0_init 19 = .ok (.dup, 1) := by decide +kernel
theorem dX0_init_20 : decode cX0_init 20 = .ok (.bipush 21, 2) := by decide +kernel
theorem dX0_init_22 : decode cX0_init 22 = .ok (.invokespecial 20, 3) := by decide +kernel
theorem dX0_init_25 : decode cX0_init 25 = .ok (.putfield 23, 3) := by decide +kernel
theorem dX0_init_28 : decode cX0_init 28 = .ok (.aload_n 0, 1) := by decide +kernel
theorem dX0_init_29 : decode cX0_init 29 = .ok (.new 18, 3) := by decide +kernel
theorem dX0_init_32 : decode cX0_init 32 = .ok (.dup, 1) := by decide +kernel
theorem dX0_init_33 : decode cX0_init 33 = .ok (.bipush 18, 2) := by decide +kernel
theorem dX0_init_35 : decode cX0_init 35 = .ok (.invokespecial 20, 3) := by decide +kernel
theorem dX0_init_38 : decode cX0_init 38 = .ok (.putfield 27, 3) := by decide +kernel
theorem dX0_init_41 : decode cX0_init 41 = .ok (.aload_n 0, 1) := by decide +kernel
theorem dX0_init_42 : decode cX0_init 42 = .ok (.new 18, 3) := by decide +kernel
theorem dX0_init_45 : decode cX0_init 45 = .ok (.dup, 1) := by decide +kernel
theorem dX0_init_46 : decode cX0_init 46 = .ok (.bipush 108, 2) := by decide +kernel
theorem dX0_init_48 : decode cX0_init 48 = .ok (.invokespecial 20, 3) := by decide +kernel
theorem dX0_init_51 : decode cX0_init 51 = .ok (.putfield 30, 3) := by decide +kernel
theorem dX0_init_54 : decode cX0_init 54 = .ok (.aload_n 0, 1) := by decide +kernel
theorem dX0_init_55 : decode cX0_init 55 = .ok (.new 18, 3) := by decide +kernel
theorem dX0_init_58 : decode cX0_init 58 = .ok (.dup, 1) := by decide +kernel
theorem dX0_init_59 : decode cX0_init 59 = .ok (.bipush 108, 2) := by decide +kernel
theorem dX0_init_61 : decode cX0_init 61 = .ok (.invokespecial 20, 3) := by decide +kernel
theorem dX0_init_64 : decode cX0_init 64 = .ok (.putfield 33, 3) := by decide +kernel
theorem dX0_init_67 : decode cX0_init 67 = .ok (.aload_n 0, 1) := by decide +kernel
theorem dX0_init_68 : decode cX0_init 68 = .ok (.getfield 33, 3) := by decide +kernel
theorem dX0_init_71 : decode cX0_init 71 = .ok (.ldc2_w 36, 3) := by decide +kernel
theorem dX0_init_74 : decode cX0_init 74 = .ok (.invokevirtual 38, 3) := by decide +kernel
theorem dX0_init_77 : decode cX0_init 77 = .ok (.return_, 1) := by decide +kernel
theorem dX0_balanceOf_0 : decode cX0_balanceOf 0 = .ok (.aload_n 0, 1) := by decide +kernel
theorem dX0_balanceOf_1 : decode cX0_balanceOf 1 = .ok (.getfield 23, 3) := by decide +kernel
theorem dX0_balanceOf_4 : decode cX0_balanceOf 4 = .ok (.iload_n 1, 1) := by decide +kernel
theorem dX0_balanceOf_5 : decode cX0_balanceOf 5 = .ok (.iload_n 2, 1) := by decide +kernel
theorem dX0_balanceOf_6 : decode cX0_balanceOf 6 = .ok (.invokestatic 42, 3) := by decide +kernel
theorem dX0_balanceOf_9 : decode cX0_balanceOf 9 = .ok (.invokevirtual 46, 3) := by decide +kernel
theorem dX0_balanceOf_12 : decode cX0_balanceOf 12 = .ok (.lreturn, 1) := by decide +kernel
theorem dX0_paidOf_0 : decode cX0_paidOf 0 = .ok (.aload_n 0, 1) := by decide +kernel
theorem dX0_paidOf_1 : decode cX0_paidOf 1 = .ok (.getfield 30, 3) := by decide +kernel
theorem dX0_paidOf_4 : decode cX0_paidOf 4 = .ok (.iload_n 1, 1) := by decide +kernel
theorem dX0_paidOf_5 : decode cX0_paidOf 5 = .ok (.invokevirtual 46, 3) := by decide +kernel
theorem dX0_paidOf_8 : decode cX0_paidOf 8 = .ok (.lreturn, 1) := by decide +kernel
theorem dX0_changeLine_0 : decode cX0_changeLine 0 = .ok (.iload_n 1, 1) := by decide +kernel
theorem dX0_changeLine_1 : decode cX0_changeLine 1 = .ok (.iload_n 2, 1) := by decide +kernel
theorem dX0_changeLine_2 : decode cX0_changeLine 2 = .ok (.invokestatic 42, 3) := by decide +kernel
theorem dX0_changeLine_5 : decode cX0_changeLine 5 = .ok (.istore 4, 2) := by decide +kernel
theorem dX0_changeLine_7 : decode cX0_changeLine 7 = .ok (.aload_n 0, 1) := by decide +kernel
theorem dX0_changeLine_8 : decode cX0_changeLine 8 = .ok (.getfield 27, 3) := by decide +kernel
theorem dX0_changeLine_11 : decode cX0_changeLine 11 = .ok (.iload 4, 2) := by decide +kernel
theorem dX0_changeLine_13 : decode cX0_changeLine 13 = .ok (.invokevirtual 46, 3) := by decide +kernel
theorem dX0_changeLine_16 : decode cX0_changeLine 16 = .ok (.l2i, 1) := by decide +kernel
theorem dX0_changeLine_17 : decode cX0_changeLine 17 = .ok (.istore 5, 2) := by decide +kernel
theorem dX0_changeLine_19 : decode cX0_changeLine 19 = .ok (.aload_n 0, 1) := by decide +kernel
theorem dX0_changeLine_20 : decode cX0_changeLine 20 = .ok (.getfield 27, 3) := by decide +kernel
theorem dX0_changeLine_23 : decode cX0_changeLine 23 = .ok (.iload 4, 2) := by decide +kernel
theorem dX0_changeLine_25 : decode cX0_changeLine 25 = .ok (.iload_n 3, 1) := by decide +kernel
theorem dX0_changeLine_26 : decode cX0_changeLine 26 = .ok (.i2l, 1) := by decide +kernel
theorem dX0_changeLine_27 : decode cX0_changeLine 27 = .ok (.invokevirtual 50, 3) := by decide +kernel
theorem dX0_changeLine_30 : decode cX0_changeLine 30 = .ok (.iload 5, 2) := by decide +kernel
theorem dX0_changeLine_32 : decode cX0_changeLine 32 = .ok (.ireturn, 1) := by decide +kernel
theorem dX0_changeLimit_0 : decode cX0_changeLimit 0 = .ok (.aload_n 0, 1) := by decide +kernel
theorem dX0_changeLimit_1 : decode cX0_changeLimit 1 = .ok (.getfield 33, 3) := by decide +kernel
theorem dX0_changeLimit_4 : decode cX0_changeLimit 4 = .ok (.iload_n 1, 1) := by decide +kernel
theorem dX0_changeLimit_5 : decode cX0_changeLimit 5 = .ok (.invokevirtual 46, 3) := by decide +kernel
theorem dX0_changeLimit_8 : decode cX0_changeLimit 8 = .ok (.l2i, 1) := by decide +kernel
theorem dX0_changeLimit_9 : decode cX0_changeLimit 9 = .ok (.istore_n 3, 1) := by decide +kernel
theorem dX0_changeLimit_10 : decode cX0_changeLimit 10 = .ok (.aload_n 0, 1) := by decide +kernel
theorem dX0_changeLimit_11 : decode cX0_changeLimit 11 = .ok (.getfield 33, 3) := by decide +kernel
theorem dX0_changeLimit_14 : decode cX0_changeLimit 14 = .ok (.iload_n 1, 1) := by decide +kernel
theorem dX0_changeLimit_15 : decode cX0_changeLimit 15 = .ok (.iload_n 2, 1) := by decide +kernel
theorem dX0_changeLimit_16 : decode cX0_changeLimit 16 = .ok (.i2l, 1) := by decide +kernel
theorem dX0_changeLimit_17 : decode cX0_changeLimit 17 = .ok (.invokevirtual 50, 3) := by decide +kernel
theorem dX0_changeLimit_20 : decode cX0_changeLimit 20 = .ok (.iload_n 3, 1) := by decide +kernel
theorem dX0_changeLimit_21 : decode cX0_changeLimit 21 = .ok (.ireturn, 1) := by decide +kernel
theorem dX0_move_0 : decode cX0_move 0 = .ok (.iload_n 1, 1) := by decide +kernel
theorem dX0_move_1 : decode cX0_move 1 = .ok (.iconst (-1), 1) := by decide +kernel
theorem dX0_move_2 : decode cX0_move 2 = .ok (.if_icmp .eq 18, 3) := by decide +kernel
theorem dX0_move_5 : decode cX0_move 5 = .ok (.aload_n 0, 1) := by decide +kernel
theorem dX0_move_6 : decode cX0_move 6 = .ok (.getfield 23, 3) := by decide +kernel
theorem dX0_move_9 : decode cX0_move 9 = .ok (.iload_n 1, 1) := by decide +kernel
theorem dX0_move_10 : decode cX0_move 10 = .ok (.iload_n 3, 1) := by decide +kernel
theorem dX0_move_11 : decode cX0_move 11 = .ok (.invokestatic 42, 3) := by decide +kernel
theorem dX0_move_14 : decode cX0_move 14 = .ok (.lload 4, 2) := by decide +kernel
theorem dX0_move_16 : decode cX0_move 16 = .ok (.lneg, 1) := by decide +kernel
theorem dX0_move_17 : decode cX0_move 17 = .ok (.invokevirtual 54, 3) := by decide +kernel
theorem dX0_move_20 : decode cX0_move 20 = .ok (.aload_n 0, 1) := by decide +kernel
theorem dX0_move_21 : decode cX0_move 21 = .ok (.getfield 23, 3) := by decide +kernel
theorem dX0_move_24 : decode cX0_move 24 = .ok (.iload_n 2, 1) := by decide +kernel
theorem dX0_move_25 : decode cX0_move 25 = .ok (.iload_n 3, 1) := by decide +kernel
theorem dX0_move_26 : decode cX0_move 26 = .ok (.invokestatic 42, 3) := by decide +kernel
theorem dX0_move_29 : decode cX0_move 29 = .ok (.lload 4, 2) := by decide +kernel
theorem dX0_move_31 : decode cX0_move 31 = .ok (.invokevirtual 54, 3) := by decide +kernel
theorem dX0_move_34 : decode cX0_move 34 = .ok (.aload_n 0, 1) := by decide +kernel
theorem dX0_move_35 : decode cX0_move 35 = .ok (.getfield 12, 3) := by decide +kernel
theorem dX0_move_38 : decode cX0_move 38 = .ok (.new 57, 3) := by decide +kernel
theorem dX0_move_41 : decode cX0_move 41 = .ok (.dup, 1) := by decide +kernel
theorem dX0_move_42 : decode cX0_move 42 = .ok (.iload_n 1, 1) := by decide +kernel
theorem dX0_move_43 : decode cX0_move 43 = .ok (.iload_n 2, 1) := by decide +kernel
theorem dX0_move_44 : decode cX0_move 44 = .ok (.iload_n 3, 1) := by decide +kernel
theorem dX0_move_45 : decode cX0_move 45 = .ok (.lload 4, 2) := by decide +kernel
theorem dX0_move_47 : decode cX0_move 47 = .ok (.iload 6, 2) := by decide +kernel
theorem dX0_move_49 : decode cX0_move 49 = .ok (.invokespecial 59, 3) := by decide +kernel
theorem dX0_move_52 : decode cX0_move 52 = .ok (.invokevirtual 62, 3) := by decide +kernel
theorem dX0_move_55 : decode cX0_move 55 = .ok (.return_, 1) := by decide +kernel
theorem dX0_pay_0 : decode cX0_pay 0 = .ok (.aload_n 0, 1) := by decide +kernel
theorem dX0_pay_1 : decode cX0_pay 1 = .ok (.aload_n 1, 1) := by decide +kernel
theorem dX0_pay_2 : decode cX0_pay 2 = .ok (.getfield 66, 3) := by decide +kernel
theorem dX0_pay_5 : decode cX0_pay 5 = .ok (.aload_n 1, 1) := by decide +kernel
theorem dX0_pay_6 : decode cX0_pay 6 = .ok (.getfield 72, 3) := by decide +kernel
theorem dX0_pay_9 : decode cX0_pay 9 = .ok (.aload_n 1, 1) := by decide +kernel
theorem dX0_pay_10 : decode cX0_pay 10 = .ok (.getfield 75, 3) := by decide +kernel
theorem dX0_pay_13 : decode cX0_pay 13 = .ok (.aload_n 1, 1) := by decide +kernel
theorem dX0_pay_14 : decode cX0_pay 14 = .ok (.getfield 78, 3) := by decide +kernel
theorem dX0_pay_17 : decode cX0_pay 17 = .ok (.i2l, 1) := by decide +kernel
theorem dX0_pay_18 : decode cX0_pay 18 = .ok (.iload_n 2, 1) := by decide +kernel
theorem dX0_pay_19 : decode cX0_pay 19 = .ok (.invokevirtual 81, 3) := by decide +kernel
theorem dX0_pay_22 : decode cX0_pay 22 = .ok (.aload_n 0, 1) := by decide +kernel
theorem dX0_pay_23 : decode cX0_pay 23 = .ok (.getfield 30, 3) := by decide +kernel
theorem dX0_pay_26 : decode cX0_pay 26 = .ok (.aload_n 1, 1) := by decide +kernel
theorem dX0_pay_27 : decode cX0_pay 27 = .ok (.getfield 66, 3) := by decide +kernel
theorem dX0_pay_30 : decode cX0_pay 30 = .ok (.aload_n 1, 1) := by decide +kernel
theorem dX0_pay_31 : decode cX0_pay 31 = .ok (.getfield 72, 3) := by decide +kernel
theorem dX0_pay_34 : decode cX0_pay 34 = .ok (.aload_n 1, 1) := by decide +kernel
theorem dX0_pay_35 : decode cX0_pay 35 = .ok (.getfield 75, 3) := by decide +kernel
theorem dX0_pay_38 : decode cX0_pay 38 = .ok (.invokestatic 84, 3) := by decide +kernel
theorem dX0_pay_41 : decode cX0_pay 41 = .ok (.aload_n 1, 1) := by decide +kernel
theorem dX0_pay_42 : decode cX0_pay 42 = .ok (.getfield 78, 3) := by decide +kernel
theorem dX0_pay_45 : decode cX0_pay 45 = .ok (.i2l, 1) := by decide +kernel
theorem dX0_pay_46 : decode cX0_pay 46 = .ok (.invokevirtual 54, 3) := by decide +kernel
theorem dX0_pay_49 : decode cX0_pay 49 = .ok (.aload_n 0, 1) := by decide +kernel
theorem dX0_pay_50 : decode cX0_pay 50 = .ok (.getfield 30, 3) := by decide +kernel
theorem dX0_pay_53 : decode cX0_pay 53 = .ok (.aload_n 1, 1) := by decide +kernel
theorem dX0_pay_54 : decode cX0_pay 54 = .ok (.getfield 72, 3) := by decide +kernel
theorem dX0_pay_57 : decode cX0_pay 57 = .ok (.aload_n 1, 1) := by decide +kernel
theorem dX0_pay_58 : decode cX0_pay 58 = .ok (.getfield 66, 3) := by decide +kernel
theorem dX0_pay_61 : decode cX0_pay 61 = .ok (.aload_n 1, 1) := by decide +kernel
theorem dX0_pay_62 : decode cX0_pay 62 = .ok (.getfield 75, 3) := by decide +kernel
theorem dX0_pay_65 : decode cX0_pay 65 = .ok (.invokestatic 84, 3) := by decide +kernel
theorem dX0_pay_68 : decode cX0_pay 68 = .ok (.aload_n 1, 1) := by decide +kernel
theorem dX0_pay_69 : decode cX0_pay 69 = .ok (.getfield 78, 3) := by decide +kernel
theorem dX0_pay_72 : decode cX0_pay 72 = .ok (.ineg, 1) := by decide +kernel
theorem dX0_pay_73 : decode cX0_pay 73 = .ok (.i2l, 1) := by decide +kernel
theorem dX0_pay_74 : decode cX0_pay 74 = .ok (.invokevirtual 54, 3) := by decide +kernel
theorem dX0_pay_77 : decode cX0_pay 77 = .ok (.return_, 1) := by decide +kernel
theorem dX0_isTooLowBy_0 : decode cX0_isTooLowBy 0 = .ok (.lload_n 2, 1) := by decide +kernel
theorem dX0_isTooLowBy_1 : decode cX0_isTooLowBy 1 = .ok (.lconst 0, 1) := by decide +kernel
theorem dX0_isTooLowBy_2 : decode cX0_isTooLowBy 2 = .ok (.lcmp, 1) := by decide +kernel
theorem dX0_isTooLowBy_3 : decode cX0_isTooLowBy 3 = .ok (.ifCond .ge 30, 3) := by decide +kernel
theorem dX0_isTooLowBy_6 : decode cX0_isTooLowBy 6 = .ok (.aload_n 0, 1) := by decide +kernel
theorem dX0_isTooLowBy_7 : decode cX0_isTooLowBy 7 = .ok (.getfield 23, 3) := by decide +kernel
theorem dX0_isTooLowBy_10 : decode cX0_isTooLowBy 10 = .ok (.iload_n 1, 1) := by decide +kernel
theorem dX0_isTooLowBy_11 : decode cX0_isTooLowBy 11 = .ok (.invokevirtual 46, 3) := by decide +kernel
theorem dX0_isTooLowBy_14 : decode cX0_isTooLowBy 14 = .ok (.lload_n 2, 1) := by decide +kernel
theorem dX0_isTooLowBy_15 : decode cX0_isTooLowBy 15 = .ok (.ladd, 1) := by decide +kernel
theorem dX0_isTooLowBy_16 : decode cX0_isTooLowBy 16 = .ok (.aload_n 0, 1) := by decide +kernel
theorem dX0_isTooLowBy_17 : decode cX0_isTooLowBy 17 = .ok (.getfield 27, 3) := by decide +kernel
theorem dX0_isTooLowBy_20 : decode cX0_isTooLowBy 20 = .ok (.iload_n 1, 1) := by decide +kernel
theorem dX0_isTooLowBy_21 : decode cX0_isTooLowBy 21 = .ok (.invokevirtual 46, 3) := by decide +kernel
theorem dX0_isTooLowBy_24 : decode cX0_isTooLowBy 24 = .ok (.lneg, 1) := by decide +kernel
theorem dX0_isTooLowBy_25 : decode cX0_isTooLowBy 25 = .ok (.lcmp, 1) := by decide +kernel
theorem dX0_isTooLowBy_26 : decode cX0_isTooLowBy 26 = .ok (.ifCond .ge 7, 3) := by decide +kernel
theorem dX0_isTooLowBy_29 : decode cX0_isTooLowBy 29 = .ok (.iconst 1, 1) := by decide +kernel
theorem dX0_isTooLowBy_30 : decode cX0_isTooLowBy 30 = .ok (.goto 4, 3) := by decide +kernel
theorem dX0_isTooLowBy_33 : decode cX0_isTooLowBy 33 = .ok (.iconst 0, 1) := by decide +kernel
theorem dX0_isTooLowBy_34 : decode cX0_isTooLowBy 34 = .ok (.ireturn, 1) := by decide +kernel
theorem dX0_isPassedBy_0 : decode cX0_isPassedBy 0 = .ok (.aload_n 0, 1) := by decide +kernel
theorem dX0_isPassedBy_1 : decode cX0_isPassedBy 1 = .ok (.getfield 33, 3) := by decide +kernel
theorem dX0_isPassedBy_4 : decode cX0_isPassedBy 4 = .ok (.iload_n 1, 1) := by decide +kernel
theorem dX0_isPassedBy_5 : decode cX0_isPassedBy 5 = .ok (.invokevirtual 46, 3) := by decide +kernel
theorem dX0_isPassedBy_8 : decode cX0_isPassedBy 8 = .ok (.lstore 4, 2) := by decide +kernel
theorem dX0_isPassedBy_10 : decode cX0_isPassedBy 10 = .ok (.lload_n 2, 1) := by decide +kernel
theorem dX0_isPassedBy_11 : decode cX0_isPassedBy 11 = .ok (.lconst 0, 1) := by decide +kernel
theorem dX0_isPassedBy_12 : decode cX0_isPassedBy 12 = .ok (.lcmp, 1) := by decide +kernel
theorem dX0_isPassedBy_13 : decode cX0_isPassedBy 13 = .ok (.ifCond .le 32, 3) := by decide +kernel
theorem dX0_isPassedBy_16 : decode cX0_isPassedBy 16 = .ok (.lload 4, 2) := by decide +kernel
theorem dX0_isPassedBy_18 : decode cX0_isPassedBy 18 = .ok (.ldc2_w 36, 3) := by decide +kernel
theorem dX0_isPassedBy_21 : decode cX0_isPassedBy 21 = .ok (.lcmp, 1) := by decide +kernel
theorem dX0_isPassedBy_22 : decode cX0_isPassedBy 22 = .ok (.ifCond .eq 23, 3) := by decide +kernel
theorem dX0_isPassedBy_25 : decode cX0_isPassedBy 25 = .ok (.aload_n 0, 1) := by decide +kernel
theorem dX0_isPassedBy_26 : decode cX0_isPassedBy 26 = .ok (.getfield 30, 3) := by decide +kernel
theorem dX0_isPassedBy_29 : decode cX0_isPassedBy 29 = .ok (.iload_n 1, 1) := by decide +kernel
theorem dX0_isPassedBy_30 : decode cX0_isPassedBy 30 = .ok (.invokevirtual 46, 3) := by decide +kernel
theorem dX0_isPassedBy_33 : decode cX0_isPassedBy 33 = .ok (.lload_n 2, 1) := by decide +kernel
theorem dX0_isPassedBy_34 : decode cX0_isPassedBy 34 = .ok (.ladd, 1) := by decide +kernel
theorem dX0_isPassedBy_35 : decode cX0_isPassedBy 35 = .ok (.lload 4, 2) := by decide +kernel
theorem dX0_isPassedBy_37 : decode cX0_isPassedBy 37 = .ok (.lcmp, 1) := by decide +kernel
theorem dX0_isPassedBy_38 : decode cX0_isPassedBy 38 = .ok (.ifCond .le 7, 3) := by decide +kernel
theorem dX0_isPassedBy_41 : decode cX0_isPassedBy 41 = .ok (.iconst 1, 1) := by decide +kernel
theorem dX0_isPassedBy_42 : decode cX0_isPassedBy 42 = .ok (.goto 4, 3) := by decide +kernel
theorem dX0_isPassedBy_45 : decode cX0_isPassedBy 45 = .ok (.iconst 0, 1) := by decide +kernel
theorem dX0_isPassedBy_46 : decode cX0_isPassedBy 46 = .ok (.ireturn, 1) := by decide +kernel
theorem dX0_beginDay_0 : decode cX0_beginDay 0 = .ok (.aload_n 0, 1) := by decide +kernel
theorem dX0_beginDay_1 : decode cX0_beginDay 1 = .ok (.getfield 30, 3) := by decide +kernel
theorem dX0_beginDay_4 : decode cX0_beginDay 4 = .ok (.lconst 0, 1) := by decide +kernel
theorem dX0_beginDay_5 : decode cX0_beginDay 5 = .ok (.invokevirtual 38, 3) := by decide +kernel
theorem dX0_beginDay_8 : decode cX0_beginDay 8 = .ok (.return_, 1) := by decide +kernel
theorem dX1_init_0 : decode cX1_init 0 = .ok (.aload_n 0, 1) := by decide +kernel
theorem dX1_init_1 : decode cX1_init 1 = .ok (.invokespecial 3, 3) := by decide +kernel
theorem dX1_init_4 : decode cX1_init 4 = .ok (.aload_n 0, 1) := by decide +kernel
theorem dX1_init_5 : decode cX1_init 5 = .ok (.new 9, 3) := by decide +kernel
theorem dX1_init_8 : decode cX1_init 8 = .ok (.dup, 1) := by decide +kernel
theorem dX1_init_9 : decode cX1_init 9 = .ok (.sipush 360, 3) := by decide +kernel
theorem dX1_init_12 : decode cX1_init 12 = .ok (.invokespecial 11, 3) := by decide +kernel
theorem dX1_init_15 : decode cX1_init 15 = .ok (.putfield 14, 3) := by decide +kernel
theorem dX1_init_18 : decode cX1_init 18 = .ok (.aload_n 0, 1) := by decide +kernel
theorem dX1_init_19 : decode cX1_init 19 = .ok (.new 9, 3) := by decide +kernel
theorem dX1_init_22 : decode cX1_init 22 = .ok (.dup, 1) := by decide +kernel
theorem dX1_init_23 : decode cX1_init 23 = .ok (.bipush 6, 2) := by decide +kernel
theorem dX1_init_25 : decode cX1_init 25 = .ok (.invokespecial 11, 3) := by decide +kernel
theorem dX1_init_28 : decode cX1_init 28 = .ok (.putfield 20, 3) := by decide +kernel
theorem dX1_init_31 : decode cX1_init 31 = .ok (.aload_n 0, 1) := by decide +kernel
theorem dX1_init_32 : decode cX1_init 32 = .ok (.new 9, 3) := by decide +kernel
theorem dX1_init_35 : decode cX1_init 35 = .ok (.dup, 1) := by decide +kernel
theorem dX1_init_36 : decode cX1_init 36 = .ok (.bipush 6, 2) := by decide +kernel
theorem dX1_init_38 : decode cX1_init 38 = .ok (.invokespecial 11, 3) := by decide +kernel
theorem dX1_init_41 : decode cX1_init 41 = .ok (.putfield 23, 3) := by decide +kernel
theorem dX1_init_44 : decode cX1_init 44 = .ok (.aload_n 0, 1) := by decide +kernel
theorem dX1_init_45 : decode cX1_init 45 = .ok (.new 9, 3) := by decide +kernel
theorem dX1_init_48 : decode cX1_init 48 = .ok (.dup, 1) := by decide +kernel
theorem dX1_init_49 : decode cX1_init 49 = .ok (.bipush 6, 2) := by decide +kernel
theorem dX1_init_51 : decode cX1_init 51 = .ok (.invokespecial 11, 3) := by decide +kernel
theorem dX1_init_54 : decode cX1_init 54 = .ok (.putfield 26, 3) := by decide +kernel
theorem dX1_init_57 : decode cX1_init 57 = .ok (.return_, 1) := by decide +kernel
theorem dX1_tell_0 : decode cX1_tell 0 = .ok (.aload_n 0, 1) := by decide +kernel
theorem dX1_tell_1 : decode cX1_tell 1 = .ok (.getfield 20, 3) := by decide +kernel
theorem dX1_tell_4 : decode cX1_tell 4 = .ok (.iload_n 1, 1) := by decide +kernel
theorem dX1_tell_5 : decode cX1_tell 5 = .ok (.invokevirtual 29, 3) := by decide +kernel
theorem dX1_tell_8 : decode cX1_tell 8 = .ok (.ldc2_w 33, 3) := by decide +kernel
theorem dX1_tell_11 : decode cX1_tell 11 = .ok (.lcmp, 1) := by decide +kernel
theorem dX1_tell_12 : decode cX1_tell 12 = .ok (.ifCond .ge 35, 3) := by decide +kernel
theorem dX1_tell_15 : decode cX1_tell 15 = .ok (.aload_n 0, 1) := by decide +kernel
theorem dX1_tell_16 : decode cX1_tell 16 = .ok (.getfield 14, 3) := by decide +kernel
theorem dX1_tell_19 : decode cX1_tell 19 = .ok (.iload_n 1, 1) := by decide +kernel
theorem dX1_tell_20 : decode cX1_tell 20 = .ok (.bipush 60, 2) := by decide +kernel
theorem dX1_tell_22 : decode cX1_tell 22 = .ok (.imul, 1) := by decide +kernel
theorem dX1_tell_23 : decode cX1_tell 23 = .ok (.aload_n 0, 1) := by decide +kernel
theorem dX1_tell_24 : decode cX1_tell 24 = .ok (.getfield 20, 3) := by decide +kernel
theorem dX1_tell_27 : decode cX1_tell 27 = .ok (.iload_n 1, 1) := by decide +kernel
theorem dX1_tell_28 : decode cX1_tell 28 = .ok (.invokevirtual 29, 3) := by decide +kernel
theorem dX1_tell_31 : decode cX1_tell 31 = .ok (.l2i, 1) := by decide +kernel
theorem dX1_tell_32 : decode cX1_tell 32 = .ok (.iadd, 1) := by decide +kernel
theorem dX1_tell_33 : decode cX1_tell 33 = .ok (.iload_n 2, 1) := by decide +kernel
theorem dX1_tell_34 : decode cX1_tell 34 = .ok (.i2l, 1) := by decide +kernel
theorem dX1_tell_35 : decode cX1_tell 35 = .ok (.invokevirtual 35, 3) := by decide +kernel
theorem dX1_tell_38 : decode cX1_tell 38 = .ok (.aload_n 0, 1) := by decide +kernel
theorem dX1_tell_39 : decode cX1_tell 39 = .ok (.getfield 20, 3) := by decide +kernel
theorem dX1_tell_42 : decode cX1_tell 42 = .ok (.iload_n 1, 1) := by decide +kernel
theorem dX1_tell_43 : decode cX1_tell 43 = .ok (.lconst 1, 1) := by decide +kernel
theorem dX1_tell_44 : decode cX1_tell 44 = .ok (.invokevirtual 39, 3) := by decide +kernel
theorem dX1_tell_47 : decode cX1_tell 47 = .ok (.return_, 1) := by decide +kernel
theorem dX1_takeNext_0 : decode cX1_takeNext 0 = .ok (.aload_n 0, 1) := by decide +kernel
theorem dX1_takeNext_1 : decode cX1_takeNext 1 = .ok (.getfield 23, 3) := by decide +kernel
theorem dX1_takeNext_4 : decode cX1_takeNext 4 = .ok (.iload_n 1, 1) := by decide +kernel
theorem dX1_takeNext_5 : decode cX1_takeNext 5 = .ok (.invokevirtual 29, 3) := by decide +kernel
theorem dX1_takeNext_8 : decode cX1_takeNext 8 = .ok (.l2i, 1) := by decide +kernel
theorem dX1_takeNext_9 : decode cX1_takeNext 9 = .ok (.istore_n 2, 1) := by decide +kernel
theorem dX1_takeNext_10 : decode cX1_takeNext 10 = .ok (.iload_n 2, 1) := by decide +kernel
theorem dX1_takeNext_11 : decode cX1_takeNext 11 = .ok (.i2l, 1) := by decide +kernel
theorem dX1_takeNext_12 : decode cX1_takeNext 12 = .ok (.aload_n 0, 1) := by decide +kernel
theorem dX1_takeNext_13 : decode cX1_takeNext 13 = .ok (.getfield 20, 3) := by decide +kernel
theorem dX1_takeNext_16 : decode cX1_takeNext 16 = .ok (.iload_n 1, 1) := by decide +kernel
theorem dX1_takeNext_17 : decode cX1_takeNext 17 = .ok (.invokevirtual 29, 3) := by decide +kernel
theorem dX1_takeNext_20 : decode cX1_takeNext 20 = .ok (.lcmp, 1) := by decide +kernel
theorem dX1_takeNext_21 : decode cX1_takeNext 21 = .ok (.ifCond .lt 5, 3) := by decide +kernel
theorem dX1_takeNext_24 : decode cX1_takeNext 24 = .ok (.iconst (-1), 1) := by decide +kernel
theorem dX1_takeNext_25 : decode cX1_takeNext 25 = .ok (.ireturn, 1) := by decide +kernel
theorem dX1_takeNext_26 : decode cX1_takeNext 26 = .ok (.aload_n 0, 1) := by decide +kernel
theorem dX1_takeNext_27 : decode cX1_takeNext 27 = .ok (.getfield 23, 3) := by decide +kernel
theorem dX1_takeNext_30 : decode cX1_takeNext 30 = .ok (.iload_n 1, 1) := by decide +kernel
theorem dX1_takeNext_31 : decode cX1_takeNext 31 = .ok (.iload_n 2, 1) := by decide +kernel
theorem dX1_takeNext_32 : decode cX1_takeNext 32 = .ok (.iconst 1, 1) := by decide +kernel
theorem dX1_takeNext_33 : decode cX1_takeNext 33 = .ok (.iadd, 1) := by decide +kernel
theorem dX1_takeNext_34 : decode cX1_takeNext 34 = .ok (.i2l, 1) := by decide +kernel
theorem dX1_takeNext_35 : decode cX1_takeNext 35 = .ok (.invokevirtual 35, 3) := by decide +kernel
theorem dX1_takeNext_38 : decode cX1_takeNext 38 = .ok (.aload_n 0, 1) := by decide +kernel
theorem dX1_takeNext_39 : decode cX1_takeNext 39 = .ok (.getfield 26, 3) := by decide +kernel
theorem dX1_takeNext_42 : decode cX1_takeNext 42 = .ok (.iload_n 1, 1) := by decide +kernel
theorem dX1_takeNext_43 : decode cX1_takeNext 43 = .ok (.aload_n 0, 1) := by decide +kernel
theorem dX1_takeNext_44 : decode cX1_takeNext 44 = .ok (.getfield 26, 3) := by decide +kernel
theorem dX1_takeNext_47 : decode cX1_takeNext 47 = .ok (.iload_n 1, 1) := by decide +kernel
theorem dX1_takeNext_48 : decode cX1_takeNext 48 = .ok (.invokevirtual 29, 3) := by decide +kernel
theorem dX1_takeNext_51 : decode cX1_takeNext 51 = .ok (.iload_n 2, 1) := by decide +kernel
theorem dX1_takeNext_52 : decode cX1_takeNext 52 = .ok (.iconst 1, 1) := by decide +kernel
theorem dX1_takeNext_53 : decode cX1_takeNext 53 = .ok (.iadd, 1) := by decide +kernel
theorem dX1_takeNext_54 : decode cX1_takeNext 54 = .ok (.i2l, 1) := by decide +kernel
theorem dX1_takeNext_55 : decode cX1_takeNext 55 = .ok (.invokestatic 42, 3) := by decide +kernel
theorem dX1_takeNext_58 : decode cX1_takeNext 58 = .ok (.invokevirtual 35, 3) := by decide +kernel
theorem dX1_takeNext_61 : decode cX1_takeNext 61 = .ok (.aload_n 0, 1) := by decide +kernel
theorem dX1_takeNext_62 : decode cX1_takeNext 62 = .ok (.getfield 14, 3) := by decide +kernel
theorem dX1_takeNext_65 : decode cX1_takeNext 65 = .ok (.iload_n 1, 1) := by decide +kernel
theorem dX1_takeNext_66 : decode cX1_takeNext 66 = .ok (.bipush 60, 2) := by decide +kernel
theorem dX1_takeNext_68 : decode cX1_takeNext 68 = .ok (.imul, 1) := by decide +kernel
theorem dX1_takeNext_69 : decode cX1_takeNext 69 = .ok (.iload_n 2, 1) := by decide +kernel
theorem dX1_takeNext_70 : decode cX1_takeNext 70 = .ok (.iadd, 1) := by decide +kernel
theorem dX1_takeNext_71 : decode cX1_takeNext 71 = .ok (.invokevirtual 29, 3) := by decide +kernel
theorem dX1_takeNext_74 : decode cX1_takeNext 74 = .ok (.l2i, 1) := by decide +kernel
theorem dX1_takeNext_75 : decode cX1_takeNext 75 = .ok (.ireturn, 1) := by decide +kernel
theorem dX1_mostTaken_0 : decode cX1_mostTaken 0 = .ok (.aload_n 0, 1) := by decide +kernel
theorem dX1_mostTaken_1 : decode cX1_mostTaken 1 = .ok (.getfield 26, 3) := by decide +kernel
theorem dX1_mostTaken_4 : decode cX1_mostTaken 4 = .ok (.iload_n 1, 1) := by decide +kernel
theorem dX1_mostTaken_5 : decode cX1_mostTaken 5 = .ok (.invokevirtual 29, 3) := by decide +kernel
theorem dX1_mostTaken_8 : decode cX1_mostTaken 8 = .ok (.l2i, 1) := by decide +kernel
theorem dX1_mostTaken_9 : decode cX1_mostTaken 9 = .ok (.ireturn, 1) := by decide +kernel
theorem dX1_startFrom_0 : decode cX1_startFrom 0 = .ok (.aload_n 0, 1) := by decide +kernel
theorem dX1_startFrom_1 : decode cX1_startFrom 1 = .ok (.getfield 23, 3) := by decide +kernel
theorem dX1_startFrom_4 : decode cX1_startFrom 4 = .ok (.iload_n 1, 1) := by decide +kernel
theorem dX1_startFrom_5 : decode cX1_startFrom 5 = .ok (.iload_n 2, 1) := by decide +kernel
theorem dX1_startFrom_6 : decode cX1_startFrom 6 = .ok (.i2l, 1) := by decide +kernel
theorem dX1_startFrom_7 : decode cX1_startFrom 7 = .ok (.invokevirtual 35, 3) := by decide +kernel
theorem dX1_startFrom_10 : decode cX1_startFrom 10 = .ok (.aload_n 0, 1) := by decide +kernel
theorem dX1_startFrom_11 : decode cX1_startFrom 11 = .ok (.getfield 20, 3) := by decide +kernel
theorem dX1_startFrom_14 : decode cX1_startFrom 14 = .ok (.iload_n 1, 1) := by decide +kernel
theorem dX1_startFrom_15 : decode cX1_startFrom 15 = .ok (.invokevirtual 29, 3) := by decide +kernel
theorem dX1_startFrom_18 : decode cX1_startFrom 18 = .ok (.l2i, 1) := by decide +kernel
theorem dX1_startFrom_19 : decode cX1_startFrom 19 = .ok (.iload_n 2, 1) := by decide +kernel
theorem dX1_startFrom_20 : decode cX1_startFrom 20 = .ok (.isub, 1) := by decide +kernel
theorem dX1_startFrom_21 : decode cX1_startFrom 21 = .ok (.ireturn, 1) := by decide +kernel
theorem dX2_init_0 : decode cX2_init 0 = .ok (.aload_n 0, 1) := by decide +kernel
theorem dX2_init_1 : decode cX2_init 1 = .ok (.invokespecial 3, 3) := by decide +kernel
theorem dX2_init_4 : decode cX2_init 4 = .ok (.aload_n 0, 1) := by decide +kernel
theorem dX2_init_5 : decode cX2_init 5 = .ok (.new 9, 3) := by decide +kernel
theorem dX2_init_8 : decode cX2_init 8 = .ok (.dup, 1) := by decide +kernel
theorem dX2_init_9 : decode cX2_init 9 = .ok (.bipush 60, 2) := by decide +kernel
theorem dX2_init_11 : decode cX2_init 11 = .ok (.invokespecial 11, 3) := by decide +kernel
theorem dX2_init_14 : decode cX2_init 14 = .ok (.putfield 14, 3) := by decide +kernel
theorem dX2_init_17 : decode cX2_init 17 = .ok (.aload_n 0, 1) := by decide +kernel
theorem dX2_init_18 : decode cX2_init 18 = .ok (.new 9, 3) := by decide +kernel
theorem dX2_init_21 : decode cX2_init 21 = .ok (.dup, 1) := by decide +kernel
theorem dX2_init_22 : decode cX2_init 22 = .ok (.bipush 21, 2) := by decide +kernel
theorem dX2_init_24 : decode cX2_init 24 = .ok (.invokespecial 11, 3) := by decide +kernel
theorem dX2_init_27 : decode cX2_init 27 = .ok (.putfield 20, 3) := by decide +kernel
theorem dX2_init_30 : decode cX2_init 30 = .ok (.aload_n 0, 1) := by decide +kernel
theorem dX2_init_31 : decode cX2_init 31 = .ok (.new 9, 3) := by decide +kernel
theorem dX2_init_34 : decode cX2_init 34 = .ok (.dup, 1) := by decide +kernel
theorem dX2_init_35 : decode cX2_init 35 = .ok (.bipush 108, 2) := by decide +kernel
theorem dX2_init_37 : decode cX2_init 37 = .ok (.invokespecial 11, 3) := by decide +kernel
theorem dX2_init_40 : decode cX2_init 40 = .ok (.putfield 23, 3) := by decide +kernel
theorem dX2_init_43 : decode cX2_init 43 = .ok (.return_, 1) := by decide +kernel
theorem dX2_clear_0 : decode cX2_clear 0 = .ok (.aload_n 0, 1) := by decide +kernel
theorem dX2_clear_1 : decode cX2_clear 1 = .ok (.getfield 14, 3) := by decide +kernel
theorem dX2_clear_4 : decode cX2_clear 4 = .ok (.lconst 0, 1) := by decide +kernel
theorem dX2_clear_5 : decode cX2_clear 5 = .ok (.invokevirtual 26, 3) := by decide +kernel
theorem dX2_clear_8 : decode cX2_clear 8 = .ok (.aload_n 0, 1) := by decide +kernel
theorem dX2_clear_9 : decode cX2_clear 9 = .ok (.getfield 20, 3) := by decide +kernel
theorem dX2_clear_12 : decode cX2_clear 12 = .ok (.lconst 0, 1) := by decide +kernel
theorem dX2_clear_13 : decode cX2_clear 13 = .ok (.invokevirtual 26, 3) := by decide +kernel
theorem dX2_clear_16 : decode cX2_clear 16 = .ok (.aload_n 0, 1) := by decide +kernel
theorem dX2_clear_17 : decode cX2_clear 17 = .ok (.getfield 23, 3) := by decide +kernel
theorem dX2_clear_20 : decode cX2_clear 20 = .ok (.lconst 0, 1) := by decide +kernel
theorem dX2_clear_21 : decode cX2_clear 21 = .ok (.invokevirtual 26, 3) := by decide +kernel
theorem dX2_clear_24 : decode cX2_clear 24 = .ok (.return_, 1) := by decide +kernel
theorem dX2_has_0 : decode cX2_has 0 = .ok (.aload_n 0, 1) := by decide +kernel
theorem dX2_has_1 : decode cX2_has 1 = .ok (.getfield 14, 3) := by decide +kernel
theorem dX2_has_4 : decode cX2_has 4 = .ok (.aload_n 1, 1) := by decide +kernel
theorem dX2_has_5 : decode cX2_has 5 = .ok (.getfield 30, 3) := by decide +kernel
theorem dX2_has_8 : decode cX2_has 8 = .ok (.invokevirtual 36, 3) := by decide +kernel
theorem dX2_has_11 : decode cX2_has 11 = .ok (.ireturn, 1) := by decide +kernel
theorem dX2_put_0 : decode cX2_put 0 = .ok (.aload_n 0, 1) := by decide +kernel
theorem dX2_put_1 : decode cX2_put 1 = .ok (.getfield 14, 3) := by decide +kernel
theorem dX2_put_4 : decode cX2_put 4 = .ok (.aload_n 1, 1) := by decide +kernel
theorem dX2_put_5 : decode cX2_put 5 = .ok (.getfield 30, 3) := by decide +kernel
theorem dX2_put_8 : decode cX2_put 8 = .ok (.iconst 1, 1) := by decide +kernel
theorem dX2_put_9 : decode cX2_put 9 = .ok (.invokevirtual 40, 3) := by decide +kernel
theorem dX2_put_12 : decode cX2_put 12 = .ok (.aload_n 0, 1) := by decide +kernel
theorem dX2_put_13 : decode cX2_put 13 = .ok (.aload_n 1, 1) := by decide +kernel
theorem dX2_put_14 : decode cX2_put 14 = .ok (.getfield 44, 3) := by decide +kernel
theorem dX2_put_17 : decode cX2_put 17 = .ok (.aload_n 1, 1) := by decide +kernel
theorem dX2_put_18 : decode cX2_put 18 = .ok (.getfield 44, 3) := by decide +kernel
theorem dX2_put_21 : decode cX2_put 21 = .ok (.getfield 48, 3) := by decide +kernel
theorem dX2_put_24 : decode cX2_put 24 = .ok (.i2l, 1) := by decide +kernel
theorem dX2_put_25 : decode cX2_put 25 = .ok (.invokevirtual 53, 3) := by decide +kernel
theorem dX2_put_28 : decode cX2_put 28 = .ok (.return_, 1) := by decide +kernel
theorem dX2_drop_0 : decode cX2_drop 0 = .ok (.aload_n 0, 1) := by decide +kernel
theorem dX2_drop_1 : decode cX2_drop 1 = .ok (.getfield 14, 3) := by decide +kernel
theorem dX2_drop_4 : decode cX2_drop 4 = .ok (.aload_n 1, 1) := by decide +kernel
theorem dX2_drop_5 : decode cX2_drop 5 = .ok (.getfield 30, 3) := by decide +kernel
theorem dX2_drop_8 : decode cX2_drop 8 = .ok (.iconst 0, 1) := by decide +kernel
theorem dX2_drop_9 : decode cX2_drop 9 = .ok (.invokevirtual 40, 3) := by decide +kernel
theorem dX2_drop_12 : decode cX2_drop 12 = .ok (.aload_n 0, 1) := by decide +kernel
theorem dX2_drop_13 : decode cX2_drop 13 = .ok (.aload_n 1, 1) := by decide +kernel
theorem dX2_drop_14 : decode cX2_drop 14 = .ok (.getfield 44, 3) := by decide +kernel
theorem dX2_drop_17 : decode cX2_drop 17 = .ok (.aload_n 1, 1) := by decide +kernel
theorem dX2_drop_18 : decode cX2_drop 18 = .ok (.getfield 44, 3) := by decide +kernel
theorem dX2_drop_21 : decode cX2_drop 21 = .ok (.getfield 48, 3) := by decide +kernel
theorem dX2_drop_24 : decode cX2_drop 24 = .ok (.ineg, 1) := by decide +kernel
theorem dX2_drop_25 : decode cX2_drop 25 = .ok (.i2l, 1) := by decide +kernel
theorem dX2_drop_26 : decode cX2_drop 26 = .ok (.invokevirtual 53, 3) := by decide +kernel
theorem dX2_drop_29 : decode cX2_drop 29 = .ok (.return_, 1) := by decide +kernel
theorem dX2_count_0 : decode cX2_count 0 = .ok (.aload_n 0, 1) := by decide +kernel
theorem dX2_count_1 : decode cX2_count 1 = .ok (.getfield 20, 3) := by decide +kernel
theorem dX2_count_4 : decode cX2_count 4 = .ok (.aload_n 1, 1) := by decide +kernel
theorem dX2_count_5 : decode cX2_count 5 = .ok (.getfield 57, 3) := by decide +kernel
theorem dX2_count_8 : decode cX2_count 8 = .ok (.aload_n 1, 1) := by decide +kernel
theorem dX2_count_9 : decode cX2_count 9 = .ok (.getfield 60, 3) := by decide +kernel
theorem dX2_count_12 : decode cX2_count 12 = .ok (.invokestatic 63, 3) := by decide +kernel
theorem dX2_count_15 : decode cX2_count 15 = .ok (.lload_n 2, 1) := by decide +kernel
theorem dX2_count_16 : decode cX2_count 16 = .ok (.lneg, 1) := by decide +kernel
theorem dX2_count_17 : decode cX2_count 17 = .ok (.invokevirtual 67, 3) := by decide +kernel
theorem dX2_count_20 : decode cX2_count 20 = .ok (.aload_n 0, 1) := by decide +kernel
theorem dX2_count_21 : decode cX2_count 21 = .ok (.getfield 20, 3) := by decide +kernel
theorem dX2_count_24 : decode cX2_count 24 = .ok (.aload_n 1, 1) := by decide +kernel
theorem dX2_count_25 : decode cX2_count 25 = .ok (.getfield 71, 3) := by decide +kernel
theorem dX2_count_28 : decode cX2_count 28 = .ok (.aload_n 1, 1) := by decide +kernel
theorem dX2_count_29 : decode cX2_count 29 = .ok (.getfield 60, 3) := by decide +kernel
theorem dX2_count_32 : decode cX2_count 32 = .ok (.invokestatic 63, 3) := by decide +kernel
theorem dX2_count_35 : decode cX2_count 35 = .ok (.lload_n 2, 1) := by decide +kernel
theorem dX2_count_36 : decode cX2_count 36 = .ok (.invokevirtual 67, 3) := by decide +kernel
theorem dX2_count_39 : decode cX2_count 39 = .ok (.aload_n 0, 1) := by decide +kernel
theorem dX2_count_40 : decode cX2_count 40 = .ok (.getfield 23, 3) := by decide +kernel
theorem dX2_count_43 : decode cX2_count 43 = .ok (.aload_n 1, 1) := by decide +kernel
theorem dX2_count_44 : decode cX2_count 44 = .ok (.getfield 57, 3) := by decide +kernel
theorem dX2_count_47 : decode cX2_count 47 = .ok (.aload_n 1, 1) := by decide +kernel
theorem dX2_count_48 : decode cX2_count 48 = .ok (.getfield 71, 3) := by decide +kernel
theorem dX2_count_51 : decode cX2_count 51 = .ok (.aload_n 1, 1) := by decide +kernel
theorem dX2_count_52 : decode cX2_count 52 = .ok (.getfield 60, 3) := by decide +kernel
theorem dX2_count_55 : decode cX2_count 55 = .ok (.invokestatic 74, 3) := by decide +kernel
theorem dX2_count_58 : decode cX2_count 58 = .ok (.lload_n 2, 1) := by decide +kernel
theorem dX2_count_59 : decode cX2_count 59 = .ok (.invokevirtual 67, 3) := by decide +kernel
theorem dX2_count_62 : decode cX2_count 62 = .ok (.aload_n 0, 1) := by decide +kernel
theorem dX2_count_63 : decode cX2_count 63 = .ok (.getfield 23, 3) := by decide +kernel
theorem dX2_count_66 : decode cX2_count 66 = .ok (.aload_n 1, 1) := by decide +kernel
theorem dX2_count_67 : decode cX2_count 67 = .ok (.getfield 71, 3) := by decide +kernel
theorem dX2_count_70 : decode cX2_count 70 = .ok (.aload_n 1, 1) := by decide +kernel
theorem dX2_count_71 : decode cX2_count 71 = .ok (.getfield 57, 3) := by decide +kernel
theorem dX2_count_74 : decode cX2_count 74 = .ok (.aload_n 1, 1) := by decide +kernel
theorem dX2_count_75 : decode cX2_count 75 = .ok (.getfield 60, 3) := by decide +kernel
theorem dX2_count_78 : decode cX2_count 78 = .ok (.invokestatic 74, 3) := by decide +kernel
theorem dX2_count_81 : decode cX2_count 81 = .ok (.lload_n 2, 1) := by decide +kernel
theorem dX2_count_82 : decode cX2_count 82 = .ok (.lneg, 1) := by decide +kernel
theorem dX2_count_83 : decode cX2_count 83 = .ok (.invokevirtual 67, 3) := by decide +kernel
theorem dX2_count_86 : decode cX2_count 86 = .ok (.return_, 1) := by decide +kernel
theorem dX2_lowestTooLow_0 : decode cX2_lowestTooLow 0 = .ok (.iconst 0, 1) := by decide +kernel
theorem dX2_lowestTooLow_1 : decode cX2_lowestTooLow 1 = .ok (.istore_n 3, 1) := by decide +kernel
theorem dX2_lowestTooLow_2 : decode cX2_lowestTooLow 2 = .ok (.iload_n 3, 1) := by decide +kernel
theorem dX2_lowestTooLow_3 : decode cX2_lowestTooLow 3 = .ok (.bipush 6, 2) := by decide +kernel
theorem dX2_lowestTooLow_5 : decode cX2_lowestTooLow 5 = .ok (.if_icmp .ge 36, 3) := by decide +kernel
theorem dX2_lowestTooLow_8 : decode cX2_lowestTooLow 8 = .ok (.iload_n 3, 1) := by decide +kernel
theorem dX2_lowestTooLow_9 : decode cX2_lowestTooLow 9 = .ok (.iload_n 2, 1) := by decide +kernel
theorem dX2_lowestTooLow_10 : decode cX2_lowestTooLow 10 = .ok (.invokestatic 63, 3) := by decide +kernel
theorem dX2_lowestTooLow_13 : decode cX2_lowestTooLow 13 = .ok (.istore 4, 2) := by decide +kernel
theorem dX2_lowestTooLow_15 : decode cX2_lowestTooLow 15 = .ok (.aload_n 1, 1) := by decide +kernel
theorem dX2_lowestTooLow_16 : decode cX2_lowestTooLow 16 = .ok (.iload 4, 2) := by decide +kernel
theorem dX2_lowestTooLow_18 : decode cX2_lowestTooLow 18 = .ok (.aload_n 0, 1) := by decide +kernel
theorem dX2_lowestTooLow_19 : decode cX2_lowestTooLow 19 = .ok (.getfield 20, 3) := by decide +kernel
theorem dX2_lowestTooLow_22 : decode cX2_lowestTooLow 22 = .ok (.iload 4, 2) := by decide +kernel
theorem dX2_lowestTooLow_24 : decode cX2_lowestTooLow 24 = .ok (.invokevirtual 78, 3) := by decide +kernel
theorem dX2_lowestTooLow_27 : decode cX2_lowestTooLow 27 = .ok (.invokevirtual 82, 3) := by decide +kernel
theorem dX2_lowestTooLow_30 : decode cX2_lowestTooLow 30 = .ok (.ifCond .eq 5, 3) := by decide +kernel
theorem dX2_lowestTooLow_33 : decode cX2_lowestTooLow 33 = .ok (.iload_n 3, 1) := by decide +kernel
theorem dX2_lowestTooLow_34 : decode cX2_lowestTooLow 34 = .ok (.ireturn, 1) := by decide +kernel
theorem dX2_lowestTooLow_35 : decode cX2_lowestTooLow 35 = .ok (.iinc 3 1, 3) := by decide +kernel
theorem dX2_lowestTooLow_38 : decode cX2_lowestTooLow 38 = .ok (.goto (-36), 3) := by decide +kernel
theorem dX2_lowestTooLow_41 : decode cX2_lowestTooLow 41 = .ok (.iconst (-1), 1) := by decide +kernel
theorem dX2_lowestTooLow_42 : decode cX2_lowestTooLow 42 = .ok (.ireturn, 1) := by decide +kernel
theorem dX2_passesLimit_0 : decode cX2_passesLimit 0 = .ok (.iload_n 2, 1) := by decide +kernel
theorem dX2_passesLimit_1 : decode cX2_passesLimit 1 = .ok (.iload_n 3, 1) := by decide +kernel
theorem dX2_passesLimit_2 : decode cX2_passesLimit 2 = .ok (.iload 4, 2) := by decide +kernel
theorem dX2_passesLimit_4 : decode cX2_passesLimit 4 = .ok (.invokestatic 74, 3) := by decide +kernel
theorem dX2_passesLimit_7 : decode cX2_passesLimit 7 = .ok (.istore 5, 2) := by decide +kernel
theorem dX2_passesLimit_9 : decode cX2_passesLimit 9 = .ok (.aload_n 1, 1) := by decide +kernel
theorem dX2_passesLimit_10 : decode cX2_passesLimit 10 = .ok (.iload 5, 2) := by decide +kernel
theorem dX2_passesLimit_12 : decode cX2_passesLimit 12 = .ok (.aload_n 0, 1) := by decide +kernel
theorem dX2_passesLimit_13 : decode cX2_passesLimit 13 = .ok (.getfield 23, 3) := by decide +kernel
theorem dX2_passesLimit_16 : decode cX2_passesLimit 16 = .ok (.iload 5, 2) := by decide +kernel
theorem dX2_passesLimit_18 : decode cX2_passesLimit 18 = .ok (.invokevirtual 78, 3) := by decide +kernel
theorem dX2_passesLimit_21 : decode cX2_passesLimit 21 = .ok (.invokevirtual 88, 3) := by decide +kernel
theorem dX2_passesLimit_24 : decode cX2_passesLimit 24 = .ok (.ireturn, 1) := by decide +kernel
theorem dX2_isWithinBounds_0 : decode cX2_isWithinBounds 0 = .ok (.aload_n 0, 1) := by decide +kernel
theorem dX2_isWithinBounds_1 : decode cX2_isWithinBounds 1 = .ok (.aload_n 1, 1) := by decide +kernel
theorem dX2_isWithinBounds_2 : decode cX2_isWithinBounds 2 = .ok (.iload_n 2, 1) := by decide +kernel
theorem dX2_isWithinBounds_3 : decode cX2_isWithinBounds 3 = .ok (.invokevirtual 91, 3) := by decide +kernel
theorem dX2_isWithinBounds_6 : decode cX2_isWithinBounds 6 = .ok (.iconst (-1), 1) := by decide +kernel
theorem dX2_isWithinBounds_7 : decode cX2_isWithinBounds 7 = .ok (.if_icmp .eq 5, 3) := by decide +kernel
theorem dX2_isWithinBounds_10 : decode cX2_isWithinBounds 10 = .ok (.iconst 0, 1) := by decide +kernel
theorem dX2_isWithinBounds_11 : decode cX2_isWithinBounds 11 = .ok (.ireturn, 1) := by decide +kernel
theorem dX2_isWithinBounds_12 : decode cX2_isWithinBounds 12 = .ok (.iconst 0, 1) := by decide +kernel
theorem dX2_isWithinBounds_13 : decode cX2_isWithinBounds 13 = .ok (.istore_n 3, 1) := by decide +kernel
theorem dX2_isWithinBounds_14 : decode cX2_isWithinBounds 14 = .ok (.iload_n 3, 1) := by decide +kernel
theorem dX2_isWithinBounds_15 : decode cX2_isWithinBounds 15 = .ok (.bipush 6, 2) := by decide +kernel
theorem dX2_isWithinBounds_17 : decode cX2_isWithinBounds 17 = .ok (.if_icmp .ge 39, 3) := by decide +kernel
theorem dX2_isWithinBounds_20 : decode cX2_isWithinBounds 20 = .ok (.iconst 0, 1) := by decide +kernel
theorem dX2_isWithinBounds_21 : decode cX2_isWithinBounds 21 = .ok (.istore 4, 2) := by decide +kernel
theorem dX2_isWithinBounds_23 : decode cX2_isWithinBounds 23 = .ok (.iload 4, 2) := by decide +kernel
theorem dX2_isWithinBounds_25 : decode cX2_isWithinBounds 25 = .ok (.bipush 6, 2) := by decide +kernel
theorem dX2_isWithinBounds_27 : decode cX2_isWithinBounds 27 = .ok (.if_icmp .ge 23, 3) := by decide +kernel
theorem dX2_isWithinBounds_30 : decode cX2_isWithinBounds 30 = .ok (.aload_n 0, 1) := by decide +kernel
theorem dX2_isWithinBounds_31 : decode cX2_isWithinBounds 31 = .ok (.aload_n 1, 1) := by decide +kernel
theorem dX2_isWithinBounds_32 : decode cX2_isWithinBounds 32 = .ok (.iload_n 3, 1) := by decide +kernel
theorem dX2_isWithinBounds_33 : decode cX2_isWithinBounds 33 = .ok (.iload 4, 2) := by decide +kernel
theorem dX2_isWithinBounds_35 : decode cX2_isWithinBounds 35 = .ok (.iload_n 2, 1) := by decide +kernel
theorem dX2_isWithinBounds_36 : decode cX2_isWithinBounds 36 = .ok (.invokevirtual 95, 3) := by decide +kernel
theorem dX2_isWithinBounds_39 : decode cX2_isWithinBounds 39 = .ok (.ifCond .eq 5, 3) := by decide +kernel
theorem dX2_isWithinBounds_42 : decode cX2_isWithinBounds 42 = .ok (.iconst 0, 1) := by decide +kernel
theorem dX2_isWithinBounds_43 : decode cX2_isWithinBounds 43 = .ok (.ireturn, 1) := by decide +kernel
theorem dX2_isWithinBounds_44 : decode cX2_isWithinBounds 44 = .ok (.iinc 4 1, 3) := by decide +kernel
theorem dX2_isWithinBounds_47 : decode cX2_isWithinBounds 47 = .ok (.goto (-24), 3) := by decide +kernel
theorem dX2_isWithinBounds_50 : decode cX2_isWithinBounds 50 = .ok (.iinc 3 1, 3) := by decide +kernel
theorem dX2_isWithinBounds_53 : decode cX2_isWithinBounds 53 = .ok (.goto (-39), 3) := by decide +kernel
theorem dX2_isWithinBounds_56 : decode cX2_isWithinBounds 56 = .ok (.iconst 1, 1) := by decide +kernel
theorem dX2_isWithinBounds_57 : decode cX2_isWithinBounds 57 = .ok (.ireturn, 1) := by decide +kernel
theorem dX3_init_0 : decode cX3_init 0 = .ok (.aload_n 0, 1) := by decide +kernel
theorem dX3_init_1 : decode cX3_init 1 = .ok (.invokespecial 3, 3) := by decide +kernel
theorem dX3_init_4 : decode cX3_init 4 = .ok (.aload_n 0, 1) := by decide +kernel
theorem dX3_init_5 : decode cX3_init 5 = .ok (.new 9, 3) := by decide +kernel
theorem dX3_init_8 : decode cX3_init 8 = .ok (.dup, 1) := by decide +kernel
theorem dX3_init_9 : decode cX3_init 9 = .ok (.invokespecial 11, 3) := by decide +kernel
theorem dX3_init_12 : decode cX3_init 12 = .ok (.putfield 12, 3) := by decide +kernel
theorem dX3_init_15 : decode cX3_init 15 = .ok (.return_, 1) := by decide +kernel
theorem dX3_count_0 : decode cX3_count 0 = .ok (.aload_n 0, 1) := by decide +kernel
theorem dX3_count_1 : decode cX3_count 1 = .ok (.getfield 12, 3) := by decide +kernel
theorem dX3_count_4 : decode cX3_count 4 = .ok (.invokevirtual 18, 3) := by decide +kernel
theorem dX3_count_7 : decode cX3_count 7 = .ok (.ireturn, 1) := by decide +kernel
theorem dX3_find_0 : decode cX3_find 0 = .ok (.iload_n 1, 1) := by decide +kernel
theorem dX3_find_1 : decode cX3_find 1 = .ok (.ifCond .lt 28, 3) := by decide +kernel
theorem dX3_find_4 : decode cX3_find 4 = .ok (.iload_n 1, 1) := by decide +kernel
theorem dX3_find_5 : decode cX3_find 5 = .ok (.aload_n 0, 1) := by decide +kernel
theorem dX3_find_6 : decode cX3_find 6 = .ok (.getfield 12, 3) := by decide +kernel
theorem dX3_find_9 : decode cX3_find 9 = .ok (.invokevirtual 18, 3) := by decide +kernel
theorem dX3_find_12 : decode cX3_find 12 = .ok (.if_icmp .ge 17, 3) := by decide +kernel
theorem dX3_find_15 : decode cX3_find 15 = .ok (.aload_n 0, 1) := by decide +kernel
theorem dX3_find_16 : decode cX3_find 16 = .ok (.getfield 12, 3) := by decide +kernel
theorem dX3_find_19 : decode cX3_find 19 = .ok (.iload_n 1, 1) := by decide +kernel
theorem dX3_find_20 : decode cX3_find 20 = .ok (.invokevirtual 22, 3) := by decide +kernel
theorem dX3_find_23 : decode cX3_find 23 = .ok (.checkcast 26, 3) := by decide +kernel
theorem dX3_find_26 : decode cX3_find 26 = .ok (.goto 4, 3) := by decide +kernel
theorem dX3_find_29 : decode cX3_find 29 = .ok (.aconst_null, 1) := by decide +kernel
theorem dX3_find_30 : decode cX3_find 30 = .ok (.areturn, 1) := by decide +kernel
theorem dX3_keep_0 : decode cX3_keep 0 = .ok (.aload_n 0, 1) := by decide +kernel
theorem dX3_keep_1 : decode cX3_keep 1 = .ok (.getfield 12, 3) := by decide +kernel
theorem dX3_keep_4 : decode cX3_keep 4 = .ok (.invokevirtual 18, 3) := by decide +kernel
theorem dX3_keep_7 : decode cX3_keep 7 = .ok (.sipush 20000, 3) := by decide +kernel
theorem dX3_keep_10 : decode cX3_keep 10 = .ok (.if_icmp .ge 12, 3) := by decide +kernel
theorem dX3_keep_13 : decode cX3_keep 13 = .ok (.aload_n 0, 1) := by decide +kernel
theorem dX3_keep_14 : decode cX3_keep 14 = .ok (.getfield 12, 3) := by decide +kernel
theorem dX3_keep_17 : decode cX3_keep 17 = .ok (.aload_n 1, 1) := by decide +kernel
theorem dX3_keep_18 : decode cX3_keep 18 = .ok (.invokevirtual 28, 3) := by decide +kernel
theorem dX3_keep_21 : decode cX3_keep 21 = .ok (.pop, 1) := by decide +kernel
theorem dX3_keep_22 : decode cX3_keep 22 = .ok (.return_, 1) := by decide +kernel
theorem dX3_sumOf_0 : decode cX3_sumOf 0 = .ok (.lconst 0, 1) := by decide +kernel
theorem dX3_sumOf_1 : decode cX3_sumOf 1 = .ok (.lstore_n 3, 1) := by decide +kernel
theorem dX3_sumOf_2 : decode cX3_sumOf 2 = .ok (.iconst 0, 1) := by decide +kernel
theorem dX3_sumOf_3 : decode cX3_sumOf 3 = .ok (.istore 5, 2) := by decide +kernel
theorem dX3_sumOf_5 : decode cX3_sumOf 5 = .ok (.iload 5, 2) := by decide +kernel
theorem dX3_sumOf_7 : decode cX3_sumOf 7 = .ok (.aload_n 0, 1) := by decide +kernel
theorem dX3_sumOf_8 : decode cX3_sumOf 8 = .ok (.getfield 12, 3) := by decide +kernel
theorem dX3_sumOf_11 : decode cX3_sumOf 11 = .ok (.invokevirtual 18, 3) := by decide +kernel
theorem dX3_sumOf_14 : decode cX3_sumOf 14 = .ok (.if_icmp .ge 74, 3) := by decide +kernel
theorem dX3_sumOf_17 : decode cX3_sumOf 17 = .ok (.aload_n 0, 1) := by decide +kernel
theorem dX3_sumOf_18 : decode cX3_sumOf 18 = .ok (.getfield 12, 3) := by decide +kernel
theorem dX3_sumOf_21 : decode cX3_sumOf 21 = .ok (.iload 5, 2) := by decide +kernel
theorem dX3_sumOf_23 : decode cX3_sumOf 23 = .ok (.invokevirtual 22, 3) := by decide +kernel
theorem dX3_sumOf_26 : decode cX3_sumOf 26 = .ok (.checkcast 26, 3) := by decide +kernel
theorem dX3_sumOf_29 : decode cX3_sumOf 29 = .ok (.astore 6, 2) := by decide +kernel
theorem dX3_sumOf_31 : decode cX3_sumOf 31 = .ok (.aload 6, 2) := by decide +kernel
theorem dX3_sumOf_33 : decode cX3_sumOf 33 = .ok (.getfield 32, 3) := by decide +kernel
theorem dX3_sumOf_36 : decode cX3_sumOf 36 = .ok (.iload_n 2, 1) := by decide +kernel
theorem dX3_sumOf_37 : decode cX3_sumOf 37 = .ok (.if_icmp .ne 45, 3) := by decide +kernel
theorem dX3_sumOf_40 : decode cX3_sumOf 40 = .ok (.lload_n 3, 1) := by decide +kernel
theorem dX3_sumOf_41 : decode cX3_sumOf 41 = .ok (.aload 6, 2) := by decide +kernel
theorem dX3_sumOf_43 : decode cX3_sumOf 43 = .ok (.getfield 36, 3) := by decide +kernel
theorem dX3_sumOf_46 : decode cX3_sumOf 46 = .ok (.iload_n 1, 1) := by decide +kernel
theorem dX3_sumOf_47 : decode cX3_sumOf 47 = .ok (.if_icmp .ne 11, 3) := by decide +kernel
theorem dX3_sumOf_50 : decode cX3_sumOf 50 = .ok (.aload 6, 2) := by decide +kernel
theorem dX3_sumOf_52 : decode cX3_sumOf 52 = .ok (.getfield 39, 3) := by decide +kernel
theorem dX3_sumOf_55 : decode cX3_sumOf 55 = .ok (.goto 4, 3) := by decide +kernel
theorem dX3_sumOf_58 : decode cX3_sumOf 58 = .ok (.lconst 0, 1) := by decide +kernel
theorem dX3_sumOf_59 : decode cX3_sumOf 59 = .ok (.ladd, 1) := by decide +kernel
theorem dX3_sumOf_60 : decode cX3_sumOf 60 = .ok (.lstore_n 3, 1) := by decide +kernel
theorem dX3_sumOf_61 : decode cX3_sumOf 61 = .ok (.lload_n 3, 1) := by decide +kernel
theorem dX3_sumOf_62 : decode cX3_sumOf 62 = .ok (.aload 6, 2) := by decide +kernel
theorem dX3_sumOf_64 : decode cX3_sumOf 64 = .ok (.getfield 43, 3) := by decide +kernel
theorem dX3_sumOf_67 : decode cX3_sumOf 67 = .ok (.iload_n 1, 1) := by decide +kernel
theorem dX3_sumOf_68 : decode cX3_sumOf 68 = .ok (.if_icmp .ne 11, 3) := by decide +kernel
theorem dX3_sumOf_71 : decode cX3_sumOf 71 = .ok (.aload 6, 2) := by decide +kernel
theorem dX3_sumOf_73 : decode cX3_sumOf 73 = .ok (.getfield 39, 3) := by decide +kernel
theorem dX3_sumOf_76 : decode cX3_sumOf 76 = .ok (.goto 4, 3) := by decide +kernel
theorem dX3_sumOf_79 : decode cX3_sumOf 79 = .ok (.lconst 0, 1) := by decide +kernel
theorem dX3_sumOf_80 : decode cX3_sumOf 80 = .ok (.lsub, 1) := by decide +kernel
theorem dX3_sumOf_81 : decode cX3_sumOf 81 = .ok (.lstore_n 3, 1) := by decide +kernel
theorem dX3_sumOf_82 : decode cX3_sumOf 82 = .ok (.iinc 5 1, 3) := by decide +kernel
theorem dX3_sumOf_85 : decode cX3_sumOf 85 = .ok (.goto (-80), 3) := by decide +kernel
theorem dX3_sumOf_88 : decode cX3_sumOf 88 = .ok (.lload_n 3, 1) := by decide +kernel
theorem dX3_sumOf_89 : decode cX3_sumOf 89 = .ok (.lreturn, 1) := by decide +kernel
theorem dX4_init_0 : decode cX4_init 0 = .ok (.aload_n 0, 1) := by decide +kernel
theorem dX4_init_1 : decode cX4_init 1 = .ok (.invokespecial 3, 3) := by decide +kernel
theorem dX4_init_4 : decode cX4_init 4 = .ok (.aload_n 0, 1) := by decide +kernel
theorem dX4_init_5 : decode cX4_init 5 = .ok (.new 9, 3) := by decide +kernel
theorem dX4_init_8 : decode cX4_init 8 = .ok (.dup, 1) := by decide +kernel
theorem dX4_init_9 : decode cX4_init 9 = .ok (.sipush 3000, 3) := by decide +kernel
theorem dX4_init_12 : decode cX4_init 12 = .ok (.invokespecial 11, 3) := by decide +kernel
theorem dX4_init_15 : decode cX4_init 15 = .ok (.putfield 14, 3) := by decide +kernel
theorem dX4_init_18 : decode cX4_init 18 = .ok (.return_, 1) := by decide +kernel
theorem dX4_changeHoliday_0 : decode cX4_changeHoliday 0 = .ok (.aload_n 0, 1) := by decide +kernel
theorem dX4_changeHoliday_1 : decode cX4_changeHoliday 1 = .ok (.getfield 14, 3) := by decide +kernel
theorem dX4_changeHoliday_4 : decode cX4_changeHoliday 4 = .ok (.iload_n 1, 1) := by decide +kernel
theorem dX4_changeHoliday_5 : decode cX4_changeHoliday 5 = .ok (.sipush 1000, 3) := by decide +kernel
theorem dX4_changeHoliday_8 : decode cX4_changeHoliday 8 = .ok (.imul, 1) := by decide +kernel
theorem dX4_changeHoliday_9 : decode cX4_changeHoliday 9 = .ok (.iload_n 2, 1) := by decide +kernel
theorem dX4_changeHoliday_10 : decode cX4_changeHoliday 10 = .ok (.iadd, 1) := by decide +kernel
theorem dX4_changeHoliday_11 : decode cX4_changeHoliday 11 = .ok (.iload_n 3, 1) := by decide +kernel
theorem dX4_changeHoliday_12 : decode cX4_changeHoliday 12 = .ok (.invokevirtual 20, 3) := by decide +kernel
theorem dX4_changeHoliday_15 : decode cX4_changeHoliday 15 = .ok (.return_, 1) := by decide +kernel
theorem dX4_isOpen_0 : decode cX4_isOpen 0 = .ok (.iload_n 2, 1) := by decide +kernel
theorem dX4_isOpen_1 : decode cX4_isOpen 1 = .ok (.bipush 7, 2) := by decide +kernel
theorem dX4_isOpen_3 : decode cX4_isOpen 3 = .ok (.irem, 1) := by decide +kernel
theorem dX4_isOpen_4 : decode cX4_isOpen 4 = .ok (.istore_n 3, 1) := by decide +kernel
theorem dX4_isOpen_5 : decode cX4_isOpen 5 = .ok (.iload_n 3, 1) := by decide +kernel
theorem dX4_isOpen_6 : decode cX4_isOpen 6 = .ok (.iconst 5, 1) := by decide +kernel
theorem dX4_isOpen_7 : decode cX4_isOpen 7 = .ok (.if_icmp .eq 30, 3) := by decide +kernel
theorem dX4_isOpen_10 : decode cX4_isOpen 10 = .ok (.iload_n 3, 1) := by decide +kernel
theorem dX4_isOpen_11 : decode cX4_isOpen 11 = .ok (.bipush 6, 2) := by decide +kernel
theorem dX4_isOpen_13 : decode cX4_isOpen 13 = .ok (.if_icmp .eq 24, 3) := by decide +kernel
theorem dX4_isOpen_16 : decode cX4_isOpen 16 = .ok (.aload_n 0, 1) := by decide +kernel
theorem dX4_isOpen_17 : decode cX4_isOpen 17 = .ok (.getfield 14, 3) := by decide +kernel
theorem dX4_isOpen_20 : decode cX4_isOpen 20 = .ok (.iload_n 1, 1) := by decide +kernel
theorem dX4_isOpen_21 : decode cX4_isOpen 21 = .ok (.sipush 1000, 3) := by decide +kernel
theorem dX4_isOpen_24 : decode cX4_isOpen 24 = .ok (.imul, 1) := by decide +kernel
theorem dX4_isOpen_25 : decode cX4_isOpen 25 = .ok (.iload_n 2, 1) := by decide +kernel
theorem dX4_isOpen_26 : decode cX4_isOpen 26 = .ok (.iadd, 1) := by decide +kernel
theorem dX4_isOpen_27 : decode cX4_isOpen 27 = .ok (.invokevirtual 24, 3) := by decide +kernel
theorem dX4_isOpen_30 : decode cX4_isOpen 30 = .ok (.ifCond .ne 7, 3) := by decide +kernel
theorem dX4_isOpen_33 : decode cX4_isOpen 33 = .ok (.iconst 1, 1) := by decide +kernel
theorem dX4_isOpen_34 : decode cX4_isOpen 34 = .ok (.goto 4, 3) := by decide +kernel
theorem dX4_isOpen_37 : decode cX4_isOpen 37 = .ok (.iconst 0, 1) := by decide +kernel
theorem dX4_isOpen_38 : decode cX4_isOpen 38 = .ok (.ireturn, 1) := by decide +kernel
theorem dX4_isOpenToday_0 : decode cX4_isOpenToday 0 = .ok (.aload_n 0, 1) := by decide +kernel
theorem dX4_isOpenToday_1 : decode cX4_isOpenToday 1 = .ok (.iload_n 1, 1) := by decide +kernel
theorem dX4_isOpenToday_2 : decode cX4_isOpenToday 2 = .ok (.aload_n 0, 1) := by decide +kernel
theorem dX4_isOpenToday_3 : decode cX4_isOpenToday 3 = .ok (.getfield 28, 3) := by decide +kernel
theorem dX4_isOpenToday_6 : decode cX4_isOpenToday 6 = .ok (.invokevirtual 32, 3) := by decide +kernel
theorem dX4_isOpenToday_9 : decode cX4_isOpenToday 9 = .ok (.ireturn, 1) := by decide +kernel
theorem dX5_init_0 : decode cX5_init 0 = .ok (.aload_n 0, 1) := by decide +kernel
theorem dX5_init_1 : decode cX5_init 1 = .ok (.invokespecial 1, 3) := by decide +kernel
theorem dX5_init_4 : decode cX5_init 4 = .ok (.aload_n 0, 1) := by decide +kernel
theorem dX5_init_5 : decode cX5_init 5 = .ok (.iload_n 1, 1) := by decide +kernel
theorem dX5_init_6 : decode cX5_init 6 = .ok (.putfield 7, 3) := by decide +kernel
theorem dX5_init_9 : decode cX5_init 9 = .ok (.aload_n 0, 1) := by decide +kernel
theorem dX5_init_10 : decode cX5_init 10 = .ok (.iload_n 2, 1) := by decide +kernel
theorem dX5_init_11 : decode cX5_init 11 = .ok (.putfield 13, 3) := by decide +kernel
theorem dX5_init_14 : decode cX5_init 14 = .ok (.aload_n 0, 1) := by decide +kernel
theorem dX5_init_15 : decode cX5_init 15 = .ok (.iload_n 3, 1) := by decide +kernel
theorem dX5_init_16 : decode cX5_init 16 = .ok (.putfield 16, 3) := by decide +kernel
theorem dX5_init_19 : decode cX5_init 19 = .ok (.aload_n 0, 1) := by decide +kernel
theorem dX5_init_20 : decode cX5_init 20 = .ok (.lload 4, 2) := by decide +kernel
theorem dX5_init_22 : decode cX5_init 22 = .ok (.putfield 19, 3) := by decide +kernel
theorem dX5_init_25 : decode cX5_init 25 = .ok (.aload_n 0, 1) := by decide +kernel
theorem dX5_init_26 : decode cX5_init 26 = .ok (.iload 6, 2) := by decide +kernel
theorem dX5_init_28 : decode cX5_init 28 = .ok (.putfield 23, 3) := by decide +kernel
theorem dX5_init_31 : decode cX5_init 31 = .ok (.return_, 1) := by decide +kernel
theorem dX5_part_0 : decode cX5_part 0 = .ok (.iload_n 1, 1) := by decide +kernel
theorem dX5_part_1 : decode cX5_part 1 = .ok (.tableswitch 54 0 3 #[31, 37, 43, 49], 31) := by decide +kernel
theorem dX5_part_32 : decode cX5_part 32 = .ok (.aload_n 0, 1) := by decide +kernel
theorem dX5_part_33 : decode cX5_part 33 = .ok (.getfield 7, 3) := by decide +kernel
theorem dX5_part_36 : decode cX5_part 36 = .ok (.i2l, 1) := by decide +kernel
theorem dX5_part_37 : decode cX5_part 37 = .ok (.lreturn, 1) := by decide +kernel
theorem dX5_part_38 : decode cX5_part 38 = .ok (.aload_n 0, 1) := by decide +kernel
theorem dX5_part_39 : decode cX5_part 39 = .ok (.getfield 13, 3) := by decide +kernel
theorem dX5_part_42 : decode cX5_part 42 = .ok (.i2l, 1) := by decide +kernel
theorem dX5_part_43 : decode cX5_part 43 = .ok (.lreturn, 1) := by decide +kernel
theorem dX5_part_44 : decode cX5_part 44 = .ok (.aload_n 0, 1) := by decide +kernel
theorem dX5_part_45 : decode cX5_part 45 = .ok (.getfield 16, 3) := by decide +kernel
theorem dX5_part_48 : decode cX5_part 48 = .ok (.i2l, 1) := by decide +kernel
theorem dX5_part_49 : decode cX5_part 49 = .ok (.lreturn, 1) := by decide +kernel
theorem dX5_part_50 : decode cX5_part 50 = .ok (.aload_n 0, 1) := by decide +kernel
theorem dX5_part_51 : decode cX5_part 51 = .ok (.getfield 19, 3) := by decide +kernel
theorem dX5_part_54 : decode cX5_part 54 = .ok (.lreturn, 1) := by decide +kernel
theorem dX5_part_55 : decode cX5_part 55 = .ok (.aload_n 0, 1) := by decide +kernel
theorem dX5_part_56 : decode cX5_part 56 = .ok (.getfield 23, 3) := by decide +kernel
theorem dX5_part_59 : decode cX5_part 59 = .ok (.i2l, 1) := by decide +kernel
theorem dX5_part_60 : decode cX5_part 60 = .ok (.lreturn, 1) := by decide +kernel
theorem dX6_init_0 : decode cX6_init 0 = .ok (.aload_n 0, 1) := by decide +kernel
theorem dX6_init_1 : decode cX6_init 1 = .ok (.invokespecial 3, 3) := by decide +kernel
theorem dX6_init_4 : decode cX6_init 4 = .ok (.aload_n 0, 1) := by decide +kernel
theorem dX6_init_5 : decode cX6_init 5 = .ok (.new 9, 3) := by decide +kernel
theorem dX6_init_8 : decode cX6_init 8 = .ok (.dup, 1) := by decide +kernel
theorem dX6_init_9 : decode cX6_init 9 = .ok (.invokespecial 11, 3) := by decide +kernel
theorem dX6_init_12 : decode cX6_init 12 = .ok (.putfield 12, 3) := by decide +kernel
theorem dX6_init_15 : decode cX6_init 15 = .ok (.aload_n 0, 1) := by decide +kernel
theorem dX6_init_16 : decode cX6_init 16 = .ok (.new 18, 3) := by decide +kernel
theorem dX6_init_19 : decode cX6_init 19 = .ok (.dup, 1) := by decide +kernel
theorem dX6_init_20 : decode cX6_init 20 = .ok (.invokespecial 20, 3) := by decide +kernel
theorem dX6_init_23 : decode cX6_init 23 = .ok (.putfield 21, 3) := by decide +kernel
theorem dX6_init_26 : decode cX6_init 26 = .ok (.aload_n 0, 1) := by decide +kernel
theorem dX6_init_27 : decode cX6_init 27 = .ok (.new 25, 3) := by decide +kernel
theorem dX6_init_30 : decode cX6_init 30 = .ok (.dup, 1) := by decide +kernel
theorem dX6_init_31 : decode cX6_init 31 = .ok (.invokespecial 27, 3) := by decide +kernel
theorem dX6_init_34 : decode cX6_init 34 = .ok (.putfield 28, 3) := by decide +kernel
theorem dX6_init_37 : decode cX6_init 37 = .ok (.aload_n 0, 1) := by decide +kernel
theorem dX6_init_38 : decode cX6_init 38 = .ok (.new 32, 3) := by decide +kernel
theorem dX6_init_41 : decode cX6_init 41 = .ok (.dup, 1) := by decide +kernel
theorem dX6_init_42 : decode cX6_init 42 = .ok (.invokespecial 34, 3) := by decide +kernel
theorem dX6_init_45 : decode cX6_init 45 = .ok (.putfield 35, 3) := by decide +kernel
theorem dX6_init_48 : decode cX6_init 48 = .ok (.aload_n 0, 1) := by decide +kernel
theorem dX6_init_49 : decode cX6_init 49 = .ok (.new 39, 3) := by decide +kernel
theorem dX6_init_52 : decode cX6_init 52 = .ok (.dup, 1) := by decide +kernel
theorem dX6_init_53 : decode cX6_init 53 = .ok (.bipush 6, 2) := by decide +kernel
theorem dX6_init_55 : decode cX6_init 55 = .ok (.invokespecial 41, 3) := by decide +kernel
theorem dX6_init_58 : decode cX6_init 58 = .ok (.putfield 44, 3) := by decide +kernel
theorem dX6_init_61 : decode cX6_init 61 = .ok (.aload_n 0, 1) := by decide +kernel
theorem dX6_init_62 : decode cX6_init 62 = .ok (.new 39, 3) := by decide +kernel
theorem dX6_init_65 : decode cX6_init 65 = .ok (.dup, 1) := by decide +kernel
theorem dX6_init_66 : decode cX6_init 66 = .ok (.bipush 20, 2) := by decide +kernel
theorem dX6_init_68 : decode cX6_init 68 = .ok (.invokespecial 41, 3) := by decide +kernel
theorem dX6_init_71 : decode cX6_init 71 = .ok (.putfield 48, 3) := by decide +kernel
theorem dX6_init_74 : decode cX6_init 74 = .ok (.aload_n 0, 1) := by decide +kernel
theorem dX6_init_75 : decode cX6_init 75 = .ok (.new 51, 3) := by decide +kernel
theorem dX6_init_78 : decode cX6_init 78 = .ok (.dup, 1) := by decide +kernel
theorem dX6_init_79 : decode cX6_init 79 = .ok (.invokespecial 53, 3) := by decide +kernel
theorem dX6_init_82 : decode cX6_init 82 = .ok (.putfield 54, 3) := by decide +kernel
theorem dX6_init_85 : decode cX6_init 85 = .ok (.return_, 1) := by decide +kernel
theorem dX6_bringIn_0 : decode cX6_bringIn 0 = .ok (.aload_n 0, 1) := by decide +kernel
theorem dX6_bringIn_1 : decode cX6_bringIn 1 = .ok (.getfield 28, 3) := by decide +kernel
theorem dX6_bringIn_4 : decode cX6_bringIn 4 = .ok (.aload_n 1, 1) := by decide +kernel
theorem dX6_bringIn_5 : decode cX6_bringIn 5 = .ok (.invokevirtual 58, 3) := by decide +kernel
theorem dX6_bringIn_8 : decode cX6_bringIn 8 = .ok (.astore_n 2, 1) := by decide +kernel
theorem dX6_bringIn_9 : decode cX6_bringIn 9 = .ok (.aload_n 1, 1) := by decide +kernel
theorem dX6_bringIn_10 : decode cX6_bringIn 10 = .ok (.getfield 62, 3) := by decide +kernel
theorem dX6_bringIn_13 : decode cX6_bringIn 13 = .ok (.aload_n 0, 1) := by decide +kernel
theorem dX6_bringIn_14 : decode cX6_bringIn 14 = .ok (.getfield 12, 3) := by decide +kernel
theorem dX6_bringIn_17 : decode cX6_bringIn 17 = .ok (.getfield 68, 3) := by decide +kernel
theorem dX6_bringIn_20 : decode cX6_bringIn 20 = .ok (.if_icmp .gt 22, 3) := by decide +kernel
theorem dX6_bringIn_23 : decode cX6_bringIn 23 = .ok (.aload_n 0, 1) := by decide +kernel
theorem dX6_bringIn_24 : decode cX6_bringIn 24 = .ok (.getfield 12, 3) := by decide +kernel
theorem dX6_bringIn_27 : decode cX6_bringIn 27 = .ok (.aload_n 1, 1) := by decide +kernel
theorem dX6_bringIn_28 : decode cX6_bringIn 28 = .ok (.getfield 69, 3) := by decide +kernel
theorem dX6_bringIn_31 : decode cX6_bringIn 31 = .ok (.invokevirtual 72, 3) := by decide +kernel
theorem dX6_bringIn_34 : decode cX6_bringIn 34 = .ok (.ifCond .eq 8, 3) := by decide +kernel
theorem dX6_bringIn_37 : decode cX6_bringIn 37 = .ok (.aload_n 0, 1) := by decide +kernel
theorem dX6_bringIn_38 : decode cX6_bringIn 38 = .ok (.aload_n 2, 1) := by decide +kernel
theorem dX6_bringIn_39 : decode cX6_bringIn 39 = .ok (.invokevirtual 76, 3) := by decide +kernel
theorem dX6_bringIn_42 : decode cX6_bringIn 42 = .ok (.aload_n 2, 1) := by decide +kernel
theorem dX6_bringIn_43 : decode cX6_bringIn 43 = .ok (.getfield 80, 3) := by decide +kernel
theorem dX6_bringIn_46 : decode cX6_bringIn 46 = .ok (.ireturn, 1) := by decide +kernel
theorem dX6_termsBack_0 : decode cX6_termsBack 0 = .ok (.new 63, 3) := by decide +kernel
theorem dX6_termsBack_3 : decode cX6_termsBack 3 = .ok (.dup, 1) := by decide +kernel
theorem dX6_termsBack_4 : decode cX6_termsBack 4 = .ok (.aload_n 1, 1) := by decide +kernel
theorem dX6_termsBack_5 : decode cX6_termsBack 5 = .ok (.getfield 85, 3) := by decide +kernel
theorem dX6_termsBack_8 : decode cX6_termsBack 8 = .ok (.aload_n 1, 1) := by decide +kernel
theorem dX6_termsBack_9 : decode cX6_termsBack 9 = .ok (.getfield 88, 3) := by decide +kernel
theorem dX6_termsBack_12 : decode cX6_termsBack 12 = .ok (.aload_n 1, 1) := by decide +kernel
theorem dX6_termsBack_13 : decode cX6_termsBack 13 = .ok (.getfield 69, 3) := by decide +kernel
theorem dX6_termsBack_16 : decode cX6_termsBack 16 = .ok (.aload_n 1, 1) := by decide +kernel
theorem dX6_termsBack_17 : decode cX6_termsBack 17 = .ok (.getfield 91, 3) := by decide +kernel
theorem dX6_termsBack_20 : decode cX6_termsBack 20 = .ok (.invokespecial 94, 3) := by decide +kernel
theorem dX6_termsBack_23 : decode cX6_termsBack 23 = .ok (.astore_n 2, 1) := by decide +kernel
theorem dX6_termsBack_24 : decode cX6_termsBack 24 = .ok (.aload_n 2, 1) := by decide +kernel
theorem dX6_termsBack_25 : decode cX6_termsBack 25 = .ok (.iconst 0, 1) := by decide +kernel
theorem dX6_termsBack_26 : decode cX6_termsBack 26 = .ok (.iconst 2, 1) := by decide +kernel
theorem dX6_termsBack_27 : decode cX6_termsBack 27 = .ok (.iconst 1, 1) := by decide +kernel
theorem dX6_termsBack_28 : decode cX6_termsBack 28 = .ok (.aload_n 0, 1) := by decide +kernel
theorem dX6_termsBack_29 : decode cX6_termsBack 29 = .ok (.getfield 12, 3) := by decide +kernel
theorem dX6_termsBack_32 : decode cX6_termsBack 32 = .ok (.getfield 68, 3) := by decide +kernel
theorem dX6_termsBack_35 : decode cX6_termsBack 35 = .ok (.iconst 1, 1) := by decide +kernel
theorem dX6_termsBack_36 : decode cX6_termsBack 36 = .ok (.invokevirtual 97, 3) := by decide +kernel
theorem dX6_termsBack_39 : decode cX6_termsBack 39 = .ok (.aload_n 2, 1) := by decide +kernel
theorem dX6_termsBack_40 : decode cX6_termsBack 40 = .ok (.areturn, 1) := by decide +kernel
theorem dX6_letEnter_0 : decode cX6_letEnter 0 = .ok (.aload_n 0, 1) := by decide +kernel
theorem dX6_letEnter_1 : decode cX6_letEnter 1 = .ok (.getfield 48, 3) := by decide +kernel
theorem dX6_letEnter_4 : decode cX6_letEnter 4 = .ok (.aload_n 1, 1) := by decide +kernel
theorem dX6_letEnter_5 : decode cX6_letEnter 5 = .ok (.getfield 101, 3) := by decide +kernel
theorem dX6_letEnter_8 : decode cX6_letEnter 8 = .ok (.getfield 105, 3) := by decide +kernel
theorem dX6_letEnter_11 : decode cX6_letEnter 11 = .ok (.invokevirtual 108, 3) := by decide +kernel
theorem dX6_letEnter_14 : decode cX6_letEnter 14 = .ok (.ifCond .eq 18, 3) := by decide +kernel
theorem dX6_letEnter_17 : decode cX6_letEnter 17 = .ok (.aload_n 1, 1) := by decide +kernel
theorem dX6_letEnter_18 : decode cX6_letEnter 18 = .ok (.getfield 111, 3) := by decide +kernel
theorem dX6_letEnter_21 : decode cX6_letEnter 21 = .ok (.ifCond .ne 11, 3) := by decide +kernel
theorem dX6_letEnter_24 : decode cX6_letEnter 24 = .ok (.aload_n 1, 1) := by decide +kernel
theorem dX6_letEnter_25 : decode cX6_letEnter 25 = .ok (.iconst 1, 1) := by decide +kernel
theorem dX6_letEnter_26 : decode cX6_letEnter 26 = .ok (.putfield 115, 3) := by decide +kernel
theorem dX6_letEnter_29 : decode cX6_letEnter 29 = .ok (.goto 22, 3) := by decide +kernel
theorem dX6_letEnter_32 : decode cX6_letEnter 32 = .ok (.aload_n 1, 1) := by decide +kernel
theorem dX6_letEnter_33 : decode cX6_letEnter 33 = .ok (.aload_n 1, 1) := by decide +kernel
theorem dX6_letEnter_34 : decode cX6_letEnter 34 = .ok (.getfield 101, 3) := by decide +kernel
theorem dX6_letEnter_37 : decode cX6_letEnter 37 = .ok (.getfield 118, 3) := by decide +kernel
theorem dX6_letEnter_40 : decode cX6_letEnter 40 = .ok (.ifCond .eq 7, 3) := by decide +kernel
theorem dX6_letEnter_43 : decode cX6_letEnter 43 = .ok (.iconst 2, 1) := by decide +kernel
theorem dX6_letEnter_44 : decode cX6_letEnter 44 = .ok (.goto 4, 3) := by decide +kernel
theorem dX6_letEnter_47 : decode cX6_letEnter 47 = .ok (.iconst 3, 1) := by decide +kernel
theorem dX6_letEnter_48 : decode cX6_letEnter 48 = .ok (.putfield 115, 3) := by decide +kernel
theorem dX6_letEnter_51 : decode cX6_letEnter 51 = .ok (.return_, 1) := by decide +kernel
theorem dX6_holdPaymentsFor_0 : decode cX6_holdPaymentsFor 0 = .ok (.iconst 0, 1) := by decide +kernel
theorem dX6_holdPaymentsFor_1 : decode cX6_holdPaymentsFor 1 = .ok (.istore_n 2, 1) := by decide +kernel
theorem dX6_holdPaymentsFor_2 : decode cX6_holdPaymentsFor 2 = .ok (.iconst 0, 1) := by decide +kernel
theorem dX6_holdPaymentsFor_3 : decode cX6_holdPaymentsFor 3 = .ok (.istore_n 3, 1) := by decide +kernel
theorem dX6_holdPaymentsFor_4 : decode cX6_holdPaymentsFor 4 = .ok (.iload_n 3, 1) := by decide +kernel
theorem dX6_holdPaymentsFor_5 : decode cX6_holdPaymentsFor 5 = .ok (.aload_n 0, 1) := by decide +kernel
theorem dX6_holdPaymentsFor_6 : decode cX6_holdPaymentsFor 6 = .ok (.getfield 28, 3) := by decide +kernel
theorem dX6_holdPaymentsFor_9 : decode cX6_holdPaymentsFor 9 = .ok (.invokevirtual 121, 3) := by decide +kernel
theorem dX6_holdPaymentsFor_12 : decode cX6_holdPaymentsFor 12 = .ok (.if_icmp .ge 71, 3) := by decide +kernel
theorem dX6_holdPaymentsFor_15 : decode cX6_holdPaymentsFor 15 = .ok (.aload_n 0, 1) := by decide +kernel
theorem dX6_holdPaymentsFor_16 : decode cX6_holdPaymentsFor 16 = .ok (.getfield 28, 3) := by decide +kernel
theorem dX6_holdPaymentsFor_19 : decode cX6_holdPaymentsFor 19 = .ok (.iload_n 3, 1) := by decide +kernel
theorem dX6_holdPaymentsFor_20 : decode cX6_holdPaymentsFor 20 = .ok (.invokevirtual 125, 3) := by decide +kernel
theorem dX6_holdPaymentsFor_23 : decode cX6_holdPaymentsFor 23 = .ok (.astore 4, 2) := by decide +kernel
theorem dX6_holdPaymentsFor_25 : decode cX6_holdPaymentsFor 25 = .ok (.aload 4, 2) := by decide +kernel
theorem dX6_holdPaymentsFor_27 : decode cX6_holdPaymentsFor 27 = .ok (.ifnull 50, 3) := by decide +kernel
theorem dX6_holdPaymentsFor_30 : decode cX6_holdPaymentsFor 30 = .ok (.aload 4, 2) := by decide +kernel
theorem dX6_holdPaymentsFor_32 : decode cX6_holdPaymentsFor 32 = .ok (.getfield 101, 3) := by decide +kernel
theorem dX6_holdPaymentsFor_35 : decode cX6_holdPaymentsFor 35 = .ok (.getfield 105, 3) := by decide +kernel
theorem dX6_holdPaymentsFor_38 : decode cX6_holdPaymentsFor 38 = .ok (.iload_n 1, 1) := by decide +kernel
theorem dX6_holdPaymentsFor_39 : decode cX6_holdPaymentsFor 39 = .ok (.if_icmp .ne 38, 3) := by decide +kernel
theorem dX6_holdPaymentsFor_42 : decode cX6_holdPaymentsFor 42 = .ok (.aload 4, 2) := by decide +kernel
theorem dX6_holdPaymentsFor_44 : decode cX6_holdPaymentsFor 44 = .ok (.getfield 111, 3) := by decide +kernel
theorem dX6_holdPaymentsFor_47 : decode cX6_holdPaymentsFor 47 = .ok (.ifCond .ne 30, 3) := by decide +kernel
theorem dX6_holdPaymentsFor_50 : decode cX6_holdPaymentsFor 50 = .ok (.aload 4, 2) := by decide +kernel
theorem dX6_holdPaymentsFor_52 : decode cX6_holdPaymentsFor 52 = .ok (.getfield 115, 3) := by decide +kernel
theorem dX6_holdPaymentsFor_55 : decode cX6_holdPaymentsFor 55 = .ok (.iconst 2, 1) := by decide +kernel
theorem dX6_holdPaymentsFor_56 : decode cX6_holdPaymentsFor 56 = .ok (.if_icmp .eq 12, 3) := by decide +kernel
theorem dX6_holdPaymentsFor_59 : decode cX6_holdPaymentsFor 59 = .ok (.aload 4, 2) := by decide +kernel
theorem dX6_holdPaymentsFor_61 : decode cX6_holdPaymentsFor 61 = .ok (.getfield 115, 3) := by decide +kernel
theorem dX6_holdPaymentsFor_64 : decode cX6_holdPaymentsFor 64 = .ok (.iconst 3, 1) := by decide +kernel
theorem dX6_holdPaymentsFor_65 : decode cX6_holdPaymentsFor 65 = .ok (.if_icmp .ne 12, 3) := by decide +kernel
theorem dX6_holdPaymentsFor_68 : decode cX6_holdPaymentsFor 68 = .ok (.aload 4, 2) := by decide +kernel
theorem dX6_holdPaymentsFor_70 : decode cX6_holdPaymentsFor 70 = .ok (.iconst 1, 1) := by decide +kernel
theorem dX6_holdPaymentsFor_71 : decode cX6_holdPaymentsFor 71 = .ok (.putfield 115, 3) := by decide +kernel
theorem dX6_holdPaymentsFor_74 : decode cX6_holdPaymentsFor 74 = .ok (.iinc 2 1, 3) := by decide +kernel
theorem dX6_holdPaymentsFor_77 : decode cX6_holdPaymentsFor 77 = .ok (.iinc 3 1, 3) := by decide +kernel
theorem dX6_holdPaymentsFor_80 : decode cX6_holdPaymentsFor 80 = .ok (.goto (-76), 3) := by decide +kernel
theorem dX6_holdPaymentsFor_83 : decode cX6_holdPaymentsFor 83 = .ok (.iload_n 2, 1) := by decide +kernel
theorem dX6_holdPaymentsFor_84 : decode cX6_holdPaymentsFor 84 = .ok (.ireturn, 1) := by decide +kernel
theorem dX6_runQueues_0 : decode cX6_runQueues 0 = .ok (.iconst 0, 1) := by decide +kernel
theorem dX6_runQueues_1 : decode cX6_runQueues 1 = .ok (.istore_n 1, 1) := by decide +kernel
theorem dX6_runQueues_2 : decode cX6_runQueues 2 = .ok (.iconst 0, 1) := by decide +kernel
theorem dX6_runQueues_3 : decode cX6_runQueues 3 = .ok (.istore_n 2, 1) := by decide +kernel
theorem dX6_runQueues_4 : decode cX6_runQueues 4 = .ok (.iload_n 2, 1) := by decide +kernel
theorem dX6_runQueues_5 : decode cX6_runQueues 5 = .ok (.bipush 60, 2) := by decide +kernel
theorem dX6_runQueues_7 : decode cX6_runQueues 7 = .ok (.if_icmp .gt 60, 3) := by decide +kernel
theorem dX6_runQueues_10 : decode cX6_runQueues 10 = .ok (.iload_n 1, 1) := by decide +kernel
theorem dX6_runQueues_11 : decode cX6_runQueues 11 = .ok (.istore_n 3, 1) := by decide +kernel
theorem dX6_runQueues_12 : decode cX6_runQueues 12 = .ok (.iconst 0, 1) := by decide +kernel
theorem dX6_runQueues_13 : decode cX6_runQueues 13 = .ok (.istore 4, 2) := by decide +kernel
theorem dX6_runQueues_15 : decode cX6_runQueues 15 = .ok (.iload 4, 2) := by decide +kernel
theorem dX6_runQueues_17 : decode cX6_runQueues 17 = .ok (.iconst 3, 1) := by decide +kernel
theorem dX6_runQueues_18 : decode cX6_runQueues 18 = .ok (.if_icmp .ge 36, 3) := by decide +kernel
theorem dX6_runQueues_21 : decode cX6_runQueues 21 = .ok (.iconst 0, 1) := by decide +kernel
theorem dX6_runQueues_22 : decode cX6_runQueues 22 = .ok (.istore 5, 2) := by decide +kernel
theorem dX6_runQueues_24 : decode cX6_runQueues 24 = .ok (.iload 5, 2) := by decide +kernel
theorem dX6_runQueues_26 : decode cX6_runQueues 26 = .ok (.bipush 6, 2) := by decide +kernel
theorem dX6_runQueues_28 : decode cX6_runQueues 28 = .ok (.if_icmp .ge 20, 3) := by decide +kernel
theorem dX6_runQueues_31 : decode cX6_runQueues 31 = .ok (.iload_n 1, 1) := by decide +kernel
theorem dX6_runQueues_32 : decode cX6_runQueues 32 = .ok (.aload_n 0, 1) := by decide +kernel
theorem dX6_runQueues_33 : decode cX6_runQueues 33 = .ok (.iload 5, 2) := by decide +kernel
theorem dX6_runQueues_35 : decode cX6_runQueues 35 = .ok (.iload 4, 2) := by decide +kernel
theorem dX6_runQueues_37 : decode cX6_runQueues 37 = .ok (.invokevirtual 129, 3) := by decide +kernel
theorem dX6_runQueues_40 : decode cX6_runQueues 40 = .ok (.iadd, 1) := by decide +kernel
theorem dX6_runQueues_41 : decode cX6_runQueues 41 = .ok (.istore_n 1, 1) := by decide +kernel
theorem dX6_runQueues_42 : decode cX6_runQueues 42 = .ok (.iinc 5 1, 3) := by decide +kernel
theorem dX6_runQueues_45 : decode cX6_runQueues 45 = .ok (.goto (-21), 3) := by decide +kernel
theorem dX6_runQueues_48 : decode cX6_runQueues 48 = .ok (.iinc 4 1, 3) := by decide +kernel
theorem dX6_runQueues_51 : decode cX6_runQueues 51 = .ok (.goto (-36), 3) := by decide +kernel
theorem dX6_runQueues_54 : decode cX6_runQueues 54 = .ok (.iload_n 1, 1) := by decide +kernel
theorem dX6_runQueues_55 : decode cX6_runQueues 55 = .ok (.iload_n 3, 1) := by decide +kernel
theorem dX6_runQueues_56 : decode cX6_runQueues 56 = .ok (.if_icmp .ne 5, 3) := by decide +kernel
theorem dX6_runQueues_59 : decode cX6_runQueues 59 = .ok (.iload_n 1, 1) := by decide +kernel
theorem dX6_runQueues_60 : decode cX6_runQueues 60 = .ok (.ireturn, 1) := by decide +kernel
theorem dX6_runQueues_61 : decode cX6_runQueues 61 = .ok (.iinc 2 1, 3) := by decide +kernel
theorem dX6_runQueues_64 : decode cX6_runQueues 64 = .ok (.goto (-60), 3) := by decide +kernel
theorem dX6_runQueues_67 : decode cX6_runQueues 67 = .ok (.iload_n 1, 1) := by decide +kernel
theorem dX6_runQueues_68 : decode cX6_runQueues 68 = .ok (.ireturn, 1) := by decide +kernel
theorem dX6_settleFirst_0 : decode cX6_settleFirst 0 = .ok (.aload_n 0, 1) := by decide +kernel
theorem dX6_settleFirst_1 : decode cX6_settleFirst 1 = .ok (.getfield 28, 3) := by decide +kernel
theorem dX6_settleFirst_4 : decode cX6_settleFirst 4 = .ok (.iload_n 1, 1) := by decide +kernel
theorem dX6_settleFirst_5 : decode cX6_settleFirst 5 = .ok (.iload_n 2, 1) := by decide +kernel
theorem dX6_settleFirst_6 : decode cX6_settleFirst 6 = .ok (.aconst_null, 1) := by decide +kernel
theorem dX6_settleFirst_7 : decode cX6_settleFirst 7 = .ok (.invokevirtual 133, 3) := by decide +kernel
theorem dX6_settleFirst_10 : decode cX6_settleFirst 10 = .ok (.astore_n 3, 1) := by decide +kernel
theorem dX6_settleFirst_11 : decode cX6_settleFirst 11 = .ok (.aload_n 3, 1) := by decide +kernel
theorem dX6_settleFirst_12 : decode cX6_settleFirst 12 = .ok (.ifnull 11, 3) := by decide +kernel
theorem dX6_settleFirst_15 : decode cX6_settleFirst 15 = .ok (.aload_n 0, 1) := by decide +kernel
theorem dX6_settleFirst_16 : decode cX6_settleFirst 16 = .ok (.aload_n 3, 1) := by decide +kernel
theorem dX6_settleFirst_17 : decode cX6_settleFirst 17 = .ok (.invokevirtual 137, 3) := by decide +kernel
theorem dX6_settleFirst_20 : decode cX6_settleFirst 20 = .ok (.ifCond .ne 5, 3) := by decide +kernel
theorem dX6_settleFirst_23 : decode cX6_settleFirst 23 = .ok (.iconst 0, 1) := by decide +kernel
theorem dX6_settleFirst_24 : decode cX6_settleFirst 24 = .ok (.ireturn, 1) := by decide +kernel
theorem dX6_settleFirst_25 : decode cX6_settleFirst 25 = .ok (.aload_n 0, 1) := by decide +kernel
theorem dX6_settleFirst_26 : decode cX6_settleFirst 26 = .ok (.getfield 54, 3) := by decide +kernel
theorem dX6_settleFirst_29 : decode cX6_settleFirst 29 = .ok (.invokevirtual 141, 3) := by decide +kernel
theorem dX6_settleFirst_32 : decode cX6_settleFirst 32 = .ok (.aload_n 0, 1) := by decide +kernel
theorem dX6_settleFirst_33 : decode cX6_settleFirst 33 = .ok (.getfield 54, 3) := by decide +kernel
theorem dX6_settleFirst_36 : decode cX6_settleFirst 36 = .ok (.aload_n 3, 1) := by decide +kernel
theorem dX6_settleFirst_37 : decode cX6_settleFirst 37 = .ok (.invokevirtual 144, 3) := by decide +kernel
theorem dX6_settleFirst_40 : decode cX6_settleFirst 40 = .ok (.aload_n 3, 1) := by decide +kernel
theorem dX6_settleFirst_41 : decode cX6_settleFirst 41 = .ok (.getfield 147, 3) := by decide +kernel
theorem dX6_settleFirst_44 : decode cX6_settleFirst 44 = .ok (.astore 4, 2) := by decide +kernel
theorem dX6_settleFirst_46 : decode cX6_settleFirst 46 = .ok (.aload 4, 2) := by decide +kernel
theorem dX6_settleFirst_48 : decode cX6_settleFirst 48 = .ok (.ifnull 56, 3) := by decide +kernel
theorem dX6_settleFirst_51 : decode cX6_settleFirst 51 = .ok (.aload 4, 2) := by decide +kernel
theorem dX6_settleFirst_53 : decode cX6_settleFirst 53 = .ok (.getfield 115, 3) := by decide +kernel
theorem dX6_settleFirst_56 : decode cX6_settleFirst 56 = .ok (.iconst 2, 1) := by decide +kernel
theorem dX6_settleFirst_57 : decode cX6_settleFirst 57 = .ok (.if_icmp .ne 12, 3) := by decide +kernel
theorem dX6_settleFirst_60 : decode cX6_settleFirst 60 = .ok (.aload_n 0, 1) := by decide +kernel
theorem dX6_settleFirst_61 : decode cX6_settleFirst 61 = .ok (.aload 4, 2) := by decide +kernel
theorem dX6_settleFirst_63 : decode cX6_settleFirst 63 = .ok (.invokevirtual 137, 3) := by decide +kernel
theorem dX6_settleFirst_66 : decode cX6_settleFirst 66 = .ok (.ifCond .ne 5, 3) := by decide +kernel
theorem dX6_settleFirst_69 : decode cX6_settleFirst 69 = .ok (.iconst 0, 1) := by decide +kernel
theorem dX6_settleFirst_70 : decode cX6_settleFirst 70 = .ok (.ireturn, 1) := by decide +kernel
theorem dX6_settleFirst_71 : decode cX6_settleFirst 71 = .ok (.aload_n 0, 1) := by decide +kernel
theorem dX6_settleFirst_72 : decode cX6_settleFirst 72 = .ok (.getfield 54, 3) := by decide +kernel
theorem dX6_settleFirst_75 : decode cX6_settleFirst 75 = .ok (.aload 4, 2) := by decide +kernel
theorem dX6_settleFirst_77 : decode cX6_settleFirst 77 = .ok (.invokevirtual 144, 3) := by decide +kernel
theorem dX6_settleFirst_80 : decode cX6_settleFirst 80 = .ok (.aload_n 0, 1) := by decide +kernel
theorem dX6_settleFirst_81 : decode cX6_settleFirst 81 = .ok (.getfield 54, 3) := by decide +kernel
theorem dX6_settleFirst_84 : decode cX6_settleFirst 84 = .ok (.aload_n 0, 1) := by decide +kernel
theorem dX6_settleFirst_85 : decode cX6_settleFirst 85 = .ok (.getfield 21, 3) := by decide +kernel
theorem dX6_settleFirst_88 : decode cX6_settleFirst 88 = .ok (.aload 4, 2) := by decide +kernel
theorem dX6_settleFirst_90 : decode cX6_settleFirst 90 = .ok (.getfield 101, 3) := by decide +kernel
theorem dX6_settleFirst_93 : decode cX6_settleFirst 93 = .ok (.getfield 69, 3) := by decide +kernel
theorem dX6_settleFirst_96 : decode cX6_settleFirst 96 = .ok (.invokevirtual 151, 3) := by decide +kernel
theorem dX6_settleFirst_99 : decode cX6_settleFirst 99 = .ok (.ifCond .ne 5, 3) := by decide +kernel
theorem dX6_settleFirst_102 : decode cX6_settleFirst 102 = .ok (.iconst 0, 1) := by decide +kernel
theorem dX6_settleFirst_103 : decode cX6_settleFirst 103 = .ok (.ireturn, 1) := by decide +kernel
theorem dX6_settleFirst_104 : decode cX6_settleFirst 104 = .ok (.aload_n 0, 1) := by decide +kernel
theorem dX6_settleFirst_105 : decode cX6_settleFirst 105 = .ok (.getfield 54, 3) := by decide +kernel
theorem dX6_settleFirst_108 : decode cX6_settleFirst 108 = .ok (.aload_n 0, 1) := by decide +kernel
theorem dX6_settleFirst_109 : decode cX6_settleFirst 109 = .ok (.getfield 21, 3) := by decide +kernel
theorem dX6_settleFirst_112 : decode cX6_settleFirst 112 = .ok (.iload_n 2, 1) := by decide +kernel
theorem dX6_settleFirst_113 : decode cX6_settleFirst 113 = .ok (.invokevirtual 151, 3) := by decide +kernel
theorem dX6_settleFirst_116 : decode cX6_settleFirst 116 = .ok (.ifCond .eq 10, 3) := by decide +kernel
theorem dX6_settleFirst_119 : decode cX6_settleFirst 119 = .ok (.aload_n 0, 1) := by decide +kernel
theorem dX6_settleFirst_120 : decode cX6_settleFirst 120 = .ok (.invokevirtual 155, 3) := by decide +kernel
theorem dX6_settleFirst_123 : decode cX6_settleFirst 123 = .ok (.goto 4, 3) := by decide +kernel
theorem dX6_settleFirst_126 : decode cX6_settleFirst 126 = .ok (.iconst 0, 1) := by decide +kernel
theorem dX6_settleFirst_127 : decode cX6_settleFirst 127 = .ok (.ireturn, 1) := by decide +kernel
theorem dX6_mayMove_0 : decode cX6_mayMove 0 = .ok (.aload_n 0, 1) := by decide +kernel
theorem dX6_mayMove_1 : decode cX6_mayMove 1 = .ok (.getfield 12, 3) := by decide +kernel
theorem dX6_mayMove_4 : decode cX6_mayMove 4 = .ok (.aload_n 1, 1) := by decide +kernel
theorem dX6_mayMove_5 : decode cX6_mayMove 5 = .ok (.getfield 101, 3) := by decide +kernel
theorem dX6_mayMove_8 : decode cX6_mayMove 8 = .ok (.getfield 69, 3) := by decide +kernel
theorem dX6_mayMove_11 : decode cX6_mayMove 11 = .ok (.invokevirtual 72, 3) := by decide +kernel
theorem dX6_mayMove_14 : decode cX6_mayMove 14 = .ok (.ifCond .eq 41, 3) := by decide +kernel
theorem dX6_mayMove_17 : decode cX6_mayMove 17 = .ok (.aload_n 0, 1) := by decide +kernel
theorem dX6_mayMove_18 : decode cX6_mayMove 18 = .ok (.getfield 44, 3) := by decide +kernel
theorem dX6_mayMove_21 : decode cX6_mayMove 21 = .ok (.aload_n 1, 1) := by decide +kernel
theorem dX6_mayMove_22 : decode cX6_mayMove 22 = .ok (.getfield 101, 3) := by decide +kernel
theorem dX6_mayMove_25 : decode cX6_mayMove 25 = .ok (.getfield 88, 3) := by decide +kernel
theorem dX6_mayMove_28 : decode cX6_mayMove 28 = .ok (.invokevirtual 108, 3) := by decide +kernel
theorem dX6_mayMove_31 : decode cX6_mayMove 31 = .ok (.ifCond .ne 24, 3) := by decide +kernel
theorem dX6_mayMove_34 : decode cX6_mayMove 34 = .ok (.aload_n 0, 1) := by decide +kernel
theorem dX6_mayMove_35 : decode cX6_mayMove 35 = .ok (.getfield 44, 3) := by decide +kernel
theorem dX6_mayMove_38 : decode cX6_mayMove 38 = .ok (.aload_n 1, 1) := by decide +kernel
theorem dX6_mayMove_39 : decode cX6_mayMove 39 = .ok (.getfield 101, 3) := by decide +kernel
theorem dX6_mayMove_42 : decode cX6_mayMove 42 = .ok (.getfield 85, 3) := by decide +kernel
theorem dX6_mayMove_45 : decode cX6_mayMove 45 = .ok (.invokevirtual 108, 3) := by decide +kernel
theorem dX6_mayMove_48 : decode cX6_mayMove 48 = .ok (.ifCond .ne 7, 3) := by decide +kernel
end
section
theorem dX6_mayMove_51 : decode cX6_mayMove 51 = .ok (.iconst 1, 1) := by decide +kernel
theorem dX6_mayMove_52 : decode cX6_mayMove 52 = .ok (.goto 4, 3) := by decide +kernel
theorem dX6_mayMove_55 : decode cX6_mayMove 55 = .ok (.iconst 0, 1) := by decide +kernel
theorem dX6_mayMove_56 : decode cX6_mayMove 56 = .ok (.ireturn, 1) := by decide +kernel
theorem dX6_settleMost_0 : decode cX6_settleMost 0 = .ok (.aload_n 0, 1) := by decide +kernel
theorem dX6_settleMost_1 : decode cX6_settleMost 1 = .ok (.getfield 54, 3) := by decide +kernel
theorem dX6_settleMost_4 : decode cX6_settleMost 4 = .ok (.invokevirtual 141, 3) := by decide +kernel
theorem dX6_settleMost_7 : decode cX6_settleMost 7 = .ok (.iconst 0, 1) := by decide +kernel
theorem dX6_settleMost_8 : decode cX6_settleMost 8 = .ok (.istore_n 3, 1) := by decide +kernel
theorem dX6_settleMost_9 : decode cX6_settleMost 9 = .ok (.iload_n 3, 1) := by decide +kernel
theorem dX6_settleMost_10 : decode cX6_settleMost 10 = .ok (.aload_n 0, 1) := by decide +kernel
theorem dX6_settleMost_11 : decode cX6_settleMost 11 = .ok (.getfield 28, 3) := by decide +kernel
theorem dX6_settleMost_14 : decode cX6_settleMost 14 = .ok (.invokevirtual 121, 3) := by decide +kernel
theorem dX6_settleMost_17 : decode cX6_settleMost 17 = .ok (.if_icmp .ge 60, 3) := by decide +kernel
theorem dX6_settleMost_20 : decode cX6_settleMost 20 = .ok (.aload_n 0, 1) := by decide +kernel
theorem dX6_settleMost_21 : decode cX6_settleMost 21 = .ok (.getfield 28, 3) := by decide +kernel
theorem dX6_settleMost_24 : decode cX6_settleMost 24 = .ok (.iload_n 3, 1) := by decide +kernel
theorem dX6_settleMost_25 : decode cX6_settleMost 25 = .ok (.invokevirtual 125, 3) := by decide +kernel
theorem dX6_settleMost_28 : decode cX6_settleMost 28 = .ok (.astore 4, 2) := by decide +kernel
theorem dX6_settleMost_30 : decode cX6_settleMost 30 = .ok (.aload 4, 2) := by decide +kernel
theorem dX6_settleMost_32 : decode cX6_settleMost 32 = .ok (.ifnull 39, 3) := by decide +kernel
theorem dX6_settleMost_35 : decode cX6_settleMost 35 = .ok (.aload 4, 2) := by decide +kernel
theorem dX6_settleMost_37 : decode cX6_settleMost 37 = .ok (.iload_n 2, 1) := by decide +kernel
theorem dX6_settleMost_38 : decode cX6_settleMost 38 = .ok (.iload_n 1, 1) := by decide +kernel
theorem dX6_settleMost_39 : decode cX6_settleMost 39 = .ok (.invokevirtual 158, 3) := by decide +kernel
theorem dX6_settleMost_42 : decode cX6_settleMost 42 = .ok (.ifCond .eq 29, 3) := by decide +kernel
theorem dX6_settleMost_45 : decode cX6_settleMost 45 = .ok (.aload 4, 2) := by decide +kernel
theorem dX6_settleMost_47 : decode cX6_settleMost 47 = .ok (.getfield 147, 3) := by decide +kernel
theorem dX6_settleMost_50 : decode cX6_settleMost 50 = .ok (.ifnonnull 21, 3) := by decide +kernel
theorem dX6_settleMost_53 : decode cX6_settleMost 53 = .ok (.aload_n 0, 1) := by decide +kernel
theorem dX6_settleMost_54 : decode cX6_settleMost 54 = .ok (.aload 4, 2) := by decide +kernel
theorem dX6_settleMost_56 : decode cX6_settleMost 56 = .ok (.invokevirtual 137, 3) := by decide +kernel
theorem dX6_settleMost_59 : decode cX6_settleMost 59 = .ok (.ifCond .eq 12, 3) := by decide +kernel
theorem dX6_settleMost_62 : decode cX6_settleMost 62 = .ok (.aload_n 0, 1) := by decide +kernel
theorem dX6_settleMost_63 : decode cX6_settleMost 63 = .ok (.getfield 54, 3) := by decide +kernel
theorem dX6_settleMost_66 : decode cX6_settleMost 66 = .ok (.aload 4, 2) := by decide +kernel
theorem dX6_settleMost_68 : decode cX6_settleMost 68 = .ok (.invokevirtual 144, 3) := by decide +kernel
theorem dX6_settleMost_71 : decode cX6_settleMost 71 = .ok (.iinc 3 1, 3) := by decide +kernel
theorem dX6_settleMost_74 : decode cX6_settleMost 74 = .ok (.goto (-65), 3) := by decide +kernel
theorem dX6_settleMost_77 : decode cX6_settleMost 77 = .ok (.iconst 0, 1) := by decide +kernel
theorem dX6_settleMost_78 : decode cX6_settleMost 78 = .ok (.istore_n 3, 1) := by decide +kernel
theorem dX6_settleMost_79 : decode cX6_settleMost 79 = .ok (.iload_n 3, 1) := by decide +kernel
theorem dX6_settleMost_80 : decode cX6_settleMost 80 = .ok (.bipush 60, 2) := by decide +kernel
theorem dX6_settleMost_82 : decode cX6_settleMost 82 = .ok (.if_icmp .ge 43, 3) := by decide +kernel
theorem dX6_settleMost_85 : decode cX6_settleMost 85 = .ok (.aload_n 0, 1) := by decide +kernel
theorem dX6_settleMost_86 : decode cX6_settleMost 86 = .ok (.iload_n 1, 1) := by decide +kernel
theorem dX6_settleMost_87 : decode cX6_settleMost 87 = .ok (.iload_n 2, 1) := by decide +kernel
theorem dX6_settleMost_88 : decode cX6_settleMost 88 = .ok (.iconst 2, 1) := by decide +kernel
theorem dX6_settleMost_89 : decode cX6_settleMost 89 = .ok (.if_icmp .ne 7, 3) := by decide +kernel
theorem dX6_settleMost_92 : decode cX6_settleMost 92 = .ok (.iconst 1, 1) := by decide +kernel
theorem dX6_settleMost_93 : decode cX6_settleMost 93 = .ok (.goto 4, 3) := by decide +kernel
theorem dX6_settleMost_96 : decode cX6_settleMost 96 = .ok (.iconst 0, 1) := by decide +kernel
theorem dX6_settleMost_97 : decode cX6_settleMost 97 = .ok (.invokevirtual 162, 3) := by decide +kernel
theorem dX6_settleMost_100 : decode cX6_settleMost 100 = .ok (.astore 4, 2) := by decide +kernel
theorem dX6_settleMost_102 : decode cX6_settleMost 102 = .ok (.aload 4, 2) := by decide +kernel
theorem dX6_settleMost_104 : decode cX6_settleMost 104 = .ok (.ifnonnull 6, 3) := by decide +kernel
theorem dX6_settleMost_107 : decode cX6_settleMost 107 = .ok (.goto 18, 3) := by decide +kernel
theorem dX6_settleMost_110 : decode cX6_settleMost 110 = .ok (.aload_n 0, 1) := by decide +kernel
theorem dX6_settleMost_111 : decode cX6_settleMost 111 = .ok (.getfield 54, 3) := by decide +kernel
theorem dX6_settleMost_114 : decode cX6_settleMost 114 = .ok (.aload 4, 2) := by decide +kernel
theorem dX6_settleMost_116 : decode cX6_settleMost 116 = .ok (.invokevirtual 166, 3) := by decide +kernel
theorem dX6_settleMost_119 : decode cX6_settleMost 119 = .ok (.iinc 3 1, 3) := by decide +kernel
theorem dX6_settleMost_122 : decode cX6_settleMost 122 = .ok (.goto (-43), 3) := by decide +kernel
theorem dX6_settleMost_125 : decode cX6_settleMost 125 = .ok (.aload_n 0, 1) := by decide +kernel
theorem dX6_settleMost_126 : decode cX6_settleMost 126 = .ok (.invokevirtual 155, 3) := by decide +kernel
theorem dX6_settleMost_129 : decode cX6_settleMost 129 = .ok (.ireturn, 1) := by decide +kernel
theorem dX6_nextToTakeOut_0 : decode cX6_nextToTakeOut 0 = .ok (.aload_n 0, 1) := by decide +kernel
theorem dX6_nextToTakeOut_1 : decode cX6_nextToTakeOut 1 = .ok (.getfield 54, 3) := by decide +kernel
theorem dX6_nextToTakeOut_4 : decode cX6_nextToTakeOut 4 = .ok (.aload_n 0, 1) := by decide +kernel
theorem dX6_nextToTakeOut_5 : decode cX6_nextToTakeOut 5 = .ok (.getfield 21, 3) := by decide +kernel
theorem dX6_nextToTakeOut_8 : decode cX6_nextToTakeOut 8 = .ok (.iload_n 1, 1) := by decide +kernel
theorem dX6_nextToTakeOut_9 : decode cX6_nextToTakeOut 9 = .ok (.invokevirtual 169, 3) := by decide +kernel
theorem dX6_nextToTakeOut_12 : decode cX6_nextToTakeOut 12 = .ok (.istore_n 3, 1) := by decide +kernel
theorem dX6_nextToTakeOut_13 : decode cX6_nextToTakeOut 13 = .ok (.iload_n 3, 1) := by decide +kernel
theorem dX6_nextToTakeOut_14 : decode cX6_nextToTakeOut 14 = .ok (.iconst (-1), 1) := by decide +kernel
theorem dX6_nextToTakeOut_15 : decode cX6_nextToTakeOut 15 = .ok (.if_icmp .eq 11, 3) := by decide +kernel
theorem dX6_nextToTakeOut_18 : decode cX6_nextToTakeOut 18 = .ok (.aload_n 0, 1) := by decide +kernel
theorem dX6_nextToTakeOut_19 : decode cX6_nextToTakeOut 19 = .ok (.iload_n 3, 1) := by decide +kernel
theorem dX6_nextToTakeOut_20 : decode cX6_nextToTakeOut 20 = .ok (.iconst (-1), 1) := by decide +kernel
theorem dX6_nextToTakeOut_21 : decode cX6_nextToTakeOut 21 = .ok (.iload_n 2, 1) := by decide +kernel
theorem dX6_nextToTakeOut_22 : decode cX6_nextToTakeOut 22 = .ok (.invokevirtual 173, 3) := by decide +kernel
theorem dX6_nextToTakeOut_25 : decode cX6_nextToTakeOut 25 = .ok (.areturn, 1) := by decide +kernel
theorem dX6_nextToTakeOut_26 : decode cX6_nextToTakeOut 26 = .ok (.iconst 0, 1) := by decide +kernel
theorem dX6_nextToTakeOut_27 : decode cX6_nextToTakeOut 27 = .ok (.istore 4, 2) := by decide +kernel
theorem dX6_nextToTakeOut_29 : decode cX6_nextToTakeOut 29 = .ok (.iload 4, 2) := by decide +kernel
theorem dX6_nextToTakeOut_31 : decode cX6_nextToTakeOut 31 = .ok (.bipush 6, 2) := by decide +kernel
theorem dX6_nextToTakeOut_33 : decode cX6_nextToTakeOut 33 = .ok (.if_icmp .ge 54, 3) := by decide +kernel
theorem dX6_nextToTakeOut_36 : decode cX6_nextToTakeOut 36 = .ok (.iconst 0, 1) := by decide +kernel
theorem dX6_nextToTakeOut_37 : decode cX6_nextToTakeOut 37 = .ok (.istore 5, 2) := by decide +kernel
theorem dX6_nextToTakeOut_39 : decode cX6_nextToTakeOut 39 = .ok (.iload 5, 2) := by decide +kernel
theorem dX6_nextToTakeOut_41 : decode cX6_nextToTakeOut 41 = .ok (.bipush 6, 2) := by decide +kernel
theorem dX6_nextToTakeOut_43 : decode cX6_nextToTakeOut 43 = .ok (.if_icmp .ge 38, 3) := by decide +kernel
theorem dX6_nextToTakeOut_46 : decode cX6_nextToTakeOut 46 = .ok (.aload_n 0, 1) := by decide +kernel
theorem dX6_nextToTakeOut_47 : decode cX6_nextToTakeOut 47 = .ok (.getfield 54, 3) := by decide +kernel
theorem dX6_nextToTakeOut_50 : decode cX6_nextToTakeOut 50 = .ok (.aload_n 0, 1) := by decide +kernel
theorem dX6_nextToTakeOut_51 : decode cX6_nextToTakeOut 51 = .ok (.getfield 21, 3) := by decide +kernel
theorem dX6_nextToTakeOut_54 : decode cX6_nextToTakeOut 54 = .ok (.iload 4, 2) := by decide +kernel
theorem dX6_nextToTakeOut_56 : decode cX6_nextToTakeOut 56 = .ok (.iload 5, 2) := by decide +kernel
theorem dX6_nextToTakeOut_58 : decode cX6_nextToTakeOut 58 = .ok (.iload_n 1, 1) := by decide +kernel
theorem dX6_nextToTakeOut_59 : decode cX6_nextToTakeOut 59 = .ok (.invokevirtual 177, 3) := by decide +kernel
theorem dX6_nextToTakeOut_62 : decode cX6_nextToTakeOut 62 = .ok (.ifCond .eq 13, 3) := by decide +kernel
theorem dX6_nextToTakeOut_65 : decode cX6_nextToTakeOut 65 = .ok (.aload_n 0, 1) := by decide +kernel
theorem dX6_nextToTakeOut_66 : decode cX6_nextToTakeOut 66 = .ok (.iload 4, 2) := by decide +kernel
theorem dX6_nextToTakeOut_68 : decode cX6_nextToTakeOut 68 = .ok (.iload 5, 2) := by decide +kernel
theorem dX6_nextToTakeOut_70 : decode cX6_nextToTakeOut 70 = .ok (.iload_n 2, 1) := by decide +kernel
theorem dX6_nextToTakeOut_71 : decode cX6_nextToTakeOut 71 = .ok (.invokevirtual 173, 3) := by decide +kernel
theorem dX6_nextToTakeOut_74 : decode cX6_nextToTakeOut 74 = .ok (.areturn, 1) := by decide +kernel
theorem dX6_nextToTakeOut_75 : decode cX6_nextToTakeOut 75 = .ok (.iinc 5 1, 3) := by decide +kernel
theorem dX6_nextToTakeOut_78 : decode cX6_nextToTakeOut 78 = .ok (.goto (-39), 3) := by decide +kernel
theorem dX6_nextToTakeOut_81 : decode cX6_nextToTakeOut 81 = .ok (.iinc 4 1, 3) := by decide +kernel
theorem dX6_nextToTakeOut_84 : decode cX6_nextToTakeOut 84 = .ok (.goto (-55), 3) := by decide +kernel
theorem dX6_nextToTakeOut_87 : decode cX6_nextToTakeOut 87 = .ok (.aconst_null, 1) := by decide +kernel
theorem dX6_nextToTakeOut_88 : decode cX6_nextToTakeOut 88 = .ok (.areturn, 1) := by decide +kernel
theorem dX6_lastInBatch_0 : decode cX6_lastInBatch 0 = .ok (.aconst_null, 1) := by decide +kernel
theorem dX6_lastInBatch_1 : decode cX6_lastInBatch 1 = .ok (.astore 4, 2) := by decide +kernel
theorem dX6_lastInBatch_3 : decode cX6_lastInBatch 3 = .ok (.iconst 0, 1) := by decide +kernel
theorem dX6_lastInBatch_4 : decode cX6_lastInBatch 4 = .ok (.istore 5, 2) := by decide +kernel
theorem dX6_lastInBatch_6 : decode cX6_lastInBatch 6 = .ok (.iload 5, 2) := by decide +kernel
theorem dX6_lastInBatch_8 : decode cX6_lastInBatch 8 = .ok (.aload_n 0, 1) := by decide +kernel
theorem dX6_lastInBatch_9 : decode cX6_lastInBatch 9 = .ok (.getfield 28, 3) := by decide +kernel
theorem dX6_lastInBatch_12 : decode cX6_lastInBatch 12 = .ok (.invokevirtual 121, 3) := by decide +kernel
theorem dX6_lastInBatch_15 : decode cX6_lastInBatch 15 = .ok (.if_icmp .ge 89, 3) := by decide +kernel
theorem dX6_lastInBatch_18 : decode cX6_lastInBatch 18 = .ok (.aload_n 0, 1) := by decide +kernel
theorem dX6_lastInBatch_19 : decode cX6_lastInBatch 19 = .ok (.getfield 28, 3) := by decide +kernel
theorem dX6_lastInBatch_22 : decode cX6_lastInBatch 22 = .ok (.iload 5, 2) := by decide +kernel
theorem dX6_lastInBatch_24 : decode cX6_lastInBatch 24 = .ok (.invokevirtual 125, 3) := by decide +kernel
theorem dX6_lastInBatch_27 : decode cX6_lastInBatch 27 = .ok (.astore 6, 2) := by decide +kernel
theorem dX6_lastInBatch_29 : decode cX6_lastInBatch 29 = .ok (.aload 6, 2) := by decide +kernel
theorem dX6_lastInBatch_31 : decode cX6_lastInBatch 31 = .ok (.ifnull 67, 3) := by decide +kernel
theorem dX6_lastInBatch_34 : decode cX6_lastInBatch 34 = .ok (.aload_n 0, 1) := by decide +kernel
theorem dX6_lastInBatch_35 : decode cX6_lastInBatch 35 = .ok (.getfield 54, 3) := by decide +kernel
theorem dX6_lastInBatch_38 : decode cX6_lastInBatch 38 = .ok (.aload 6, 2) := by decide +kernel
theorem dX6_lastInBatch_40 : decode cX6_lastInBatch 40 = .ok (.invokevirtual 181, 3) := by decide +kernel
theorem dX6_lastInBatch_43 : decode cX6_lastInBatch 43 = .ok (.ifCond .eq 55, 3) := by decide +kernel
theorem dX6_lastInBatch_46 : decode cX6_lastInBatch 46 = .ok (.aload 6, 2) := by decide +kernel
theorem dX6_lastInBatch_48 : decode cX6_lastInBatch 48 = .ok (.getfield 101, 3) := by decide +kernel
theorem dX6_lastInBatch_51 : decode cX6_lastInBatch 51 = .ok (.getfield 88, 3) := by decide +kernel
theorem dX6_lastInBatch_54 : decode cX6_lastInBatch 54 = .ok (.iload_n 1, 1) := by decide +kernel
theorem dX6_lastInBatch_55 : decode cX6_lastInBatch 55 = .ok (.if_icmp .ne 43, 3) := by decide +kernel
theorem dX6_lastInBatch_58 : decode cX6_lastInBatch 58 = .ok (.iload_n 2, 1) := by decide +kernel
theorem dX6_lastInBatch_59 : decode cX6_lastInBatch 59 = .ok (.iconst (-1), 1) := by decide +kernel
theorem dX6_lastInBatch_60 : decode cX6_lastInBatch 60 = .ok (.if_icmp .eq 15, 3) := by decide +kernel
theorem dX6_lastInBatch_63 : decode cX6_lastInBatch 63 = .ok (.aload 6, 2) := by decide +kernel
theorem dX6_lastInBatch_65 : decode cX6_lastInBatch 65 = .ok (.getfield 101, 3) := by decide +kernel
theorem dX6_lastInBatch_68 : decode cX6_lastInBatch 68 = .ok (.getfield 85, 3) := by decide +kernel
theorem dX6_lastInBatch_71 : decode cX6_lastInBatch 71 = .ok (.iload_n 2, 1) := by decide +kernel
theorem dX6_lastInBatch_72 : decode cX6_lastInBatch 72 = .ok (.if_icmp .ne 26, 3) := by decide +kernel
theorem dX6_lastInBatch_75 : decode cX6_lastInBatch 75 = .ok (.aload 4, 2) := by decide +kernel
theorem dX6_lastInBatch_77 : decode cX6_lastInBatch 77 = .ok (.ifnull 17, 3) := by decide +kernel
theorem dX6_lastInBatch_80 : decode cX6_lastInBatch 80 = .ok (.iload_n 3, 1) := by decide +kernel
theorem dX6_lastInBatch_81 : decode cX6_lastInBatch 81 = .ok (.ifCond .eq 13, 3) := by decide +kernel
theorem dX6_lastInBatch_84 : decode cX6_lastInBatch 84 = .ok (.aload 6, 2) := by decide +kernel
theorem dX6_lastInBatch_86 : decode cX6_lastInBatch 86 = .ok (.aload 4, 2) := by decide +kernel
theorem dX6_lastInBatch_88 : decode cX6_lastInBatch 88 = .ok (.invokevirtual 184, 3) := by decide +kernel
theorem dX6_lastInBatch_91 : decode cX6_lastInBatch 91 = .ok (.ifCond .eq 7, 3) := by decide +kernel
theorem dX6_lastInBatch_94 : decode cX6_lastInBatch 94 = .ok (.aload 6, 2) := by decide +kernel
theorem dX6_lastInBatch_96 : decode cX6_lastInBatch 96 = .ok (.astore 4, 2) := by decide +kernel
theorem dX6_lastInBatch_98 : decode cX6_lastInBatch 98 = .ok (.iinc 5 1, 3) := by decide +kernel
theorem dX6_lastInBatch_101 : decode cX6_lastInBatch 101 = .ok (.goto (-95), 3) := by decide +kernel
theorem dX6_lastInBatch_104 : decode cX6_lastInBatch 104 = .ok (.aload 4, 2) := by decide +kernel
theorem dX6_lastInBatch_106 : decode cX6_lastInBatch 106 = .ok (.areturn, 1) := by decide +kernel
theorem dX6_settleBatch_0 : decode cX6_settleBatch 0 = .ok (.iconst 0, 1) := by decide +kernel
theorem dX6_settleBatch_1 : decode cX6_settleBatch 1 = .ok (.istore_n 1, 1) := by decide +kernel
theorem dX6_settleBatch_2 : decode cX6_settleBatch 2 = .ok (.iconst 0, 1) := by decide +kernel
theorem dX6_settleBatch_3 : decode cX6_settleBatch 3 = .ok (.istore_n 2, 1) := by decide +kernel
theorem dX6_settleBatch_4 : decode cX6_settleBatch 4 = .ok (.iload_n 2, 1) := by decide +kernel
theorem dX6_settleBatch_5 : decode cX6_settleBatch 5 = .ok (.aload_n 0, 1) := by decide +kernel
theorem dX6_settleBatch_6 : decode cX6_settleBatch 6 = .ok (.getfield 28, 3) := by decide +kernel
theorem dX6_settleBatch_9 : decode cX6_settleBatch 9 = .ok (.invokevirtual 121, 3) := by decide +kernel
theorem dX6_settleBatch_12 : decode cX6_settleBatch 12 = .ok (.if_icmp .ge 85, 3) := by decide +kernel
theorem dX6_settleBatch_15 : decode cX6_settleBatch 15 = .ok (.aload_n 0, 1) := by decide +kernel
theorem dX6_settleBatch_16 : decode cX6_settleBatch 16 = .ok (.getfield 28, 3) := by decide +kernel
theorem dX6_settleBatch_19 : decode cX6_settleBatch 19 = .ok (.iload_n 2, 1) := by decide +kernel
theorem dX6_settleBatch_20 : decode cX6_settleBatch 20 = .ok (.invokevirtual 125, 3) := by decide +kernel
theorem dX6_settleBatch_23 : decode cX6_settleBatch 23 = .ok (.astore_n 3, 1) := by decide +kernel
theorem dX6_settleBatch_24 : decode cX6_settleBatch 24 = .ok (.aload_n 3, 1) := by decide +kernel
theorem dX6_settleBatch_25 : decode cX6_settleBatch 25 = .ok (.ifnull 66, 3) := by decide +kernel
theorem dX6_settleBatch_28 : decode cX6_settleBatch 28 = .ok (.aload_n 0, 1) := by decide +kernel
theorem dX6_settleBatch_29 : decode cX6_settleBatch 29 = .ok (.getfield 54, 3) := by decide +kernel
theorem dX6_settleBatch_32 : decode cX6_settleBatch 32 = .ok (.aload_n 3, 1) := by decide +kernel
theorem dX6_settleBatch_33 : decode cX6_settleBatch 33 = .ok (.invokevirtual 181, 3) := by decide +kernel
theorem dX6_settleBatch_36 : decode cX6_settleBatch 36 = .ok (.ifCond .eq 55, 3) := by decide +kernel
theorem dX6_settleBatch_39 : decode cX6_settleBatch 39 = .ok (.aload_n 3, 1) := by decide +kernel
theorem dX6_settleBatch_40 : decode cX6_settleBatch 40 = .ok (.iconst 4, 1) := by decide +kernel
theorem dX6_settleBatch_41 : decode cX6_settleBatch 41 = .ok (.putfield 115, 3) := by decide +kernel
theorem dX6_settleBatch_44 : decode cX6_settleBatch 44 = .ok (.aload_n 3, 1) := by decide +kernel
theorem dX6_settleBatch_45 : decode cX6_settleBatch 45 = .ok (.aload_n 0, 1) := by decide +kernel
theorem dX6_settleBatch_46 : decode cX6_settleBatch 46 = .ok (.getfield 12, 3) := by decide +kernel
theorem dX6_settleBatch_49 : decode cX6_settleBatch 49 = .ok (.getfield 68, 3) := by decide +kernel
theorem dX6_settleBatch_52 : decode cX6_settleBatch 52 = .ok (.putfield 187, 3) := by decide +kernel
theorem dX6_settleBatch_55 : decode cX6_settleBatch 55 = .ok (.aload_n 0, 1) := by decide +kernel
theorem dX6_settleBatch_56 : decode cX6_settleBatch 56 = .ok (.getfield 21, 3) := by decide +kernel
theorem dX6_settleBatch_59 : decode cX6_settleBatch 59 = .ok (.aload_n 3, 1) := by decide +kernel
theorem dX6_settleBatch_60 : decode cX6_settleBatch 60 = .ok (.getfield 101, 3) := by decide +kernel
theorem dX6_settleBatch_63 : decode cX6_settleBatch 63 = .ok (.aload_n 3, 1) := by decide +kernel
theorem dX6_settleBatch_64 : decode cX6_settleBatch 64 = .ok (.getfield 80, 3) := by decide +kernel
theorem dX6_settleBatch_67 : decode cX6_settleBatch 67 = .ok (.invokevirtual 190, 3) := by decide +kernel
theorem dX6_settleBatch_70 : decode cX6_settleBatch 70 = .ok (.aload_n 0, 1) := by decide +kernel
theorem dX6_settleBatch_71 : decode cX6_settleBatch 71 = .ok (.getfield 35, 3) := by decide +kernel
theorem dX6_settleBatch_74 : decode cX6_settleBatch 74 = .ok (.aload_n 3, 1) := by decide +kernel
theorem dX6_settleBatch_75 : decode cX6_settleBatch 75 = .ok (.getfield 101, 3) := by decide +kernel
theorem dX6_settleBatch_78 : decode cX6_settleBatch 78 = .ok (.getfield 85, 3) := by decide +kernel
theorem dX6_settleBatch_81 : decode cX6_settleBatch 81 = .ok (.aload_n 3, 1) := by decide +kernel
theorem dX6_settleBatch_82 : decode cX6_settleBatch 82 = .ok (.getfield 80, 3) := by decide +kernel
theorem dX6_settleBatch_85 : decode cX6_settleBatch 85 = .ok (.invokevirtual 194, 3) := by decide +kernel
theorem dX6_settleBatch_88 : decode cX6_settleBatch 88 = .ok (.iinc 1 1, 3) := by decide +kernel
theorem dX6_settleBatch_91 : decode cX6_settleBatch 91 = .ok (.iinc 2 1, 3) := by decide +kernel
theorem dX6_settleBatch_94 : decode cX6_settleBatch 94 = .ok (.goto (-90), 3) := by decide +kernel
theorem dX6_settleBatch_97 : decode cX6_settleBatch 97 = .ok (.iload_n 1, 1) := by decide +kernel
theorem dX6_settleBatch_98 : decode cX6_settleBatch 98 = .ok (.ireturn, 1) := by decide +kernel
theorem dX6_closeDay_0 : decode cX6_closeDay 0 = .ok (.iconst 0, 1) := by decide +kernel
theorem dX6_closeDay_1 : decode cX6_closeDay 1 = .ok (.istore_n 1, 1) := by decide +kernel
theorem dX6_closeDay_2 : decode cX6_closeDay 2 = .ok (.iconst 0, 1) := by decide +kernel
theorem dX6_closeDay_3 : decode cX6_closeDay 3 = .ok (.istore_n 2, 1) := by decide +kernel
theorem dX6_closeDay_4 : decode cX6_closeDay 4 = .ok (.iload_n 2, 1) := by decide +kernel
theorem dX6_closeDay_5 : decode cX6_closeDay 5 = .ok (.iconst 3, 1) := by decide +kernel
theorem dX6_closeDay_6 : decode cX6_closeDay 6 = .ok (.if_icmp .ge 18, 3) := by decide +kernel
theorem dX6_closeDay_9 : decode cX6_closeDay 9 = .ok (.iload_n 1, 1) := by decide +kernel
theorem dX6_closeDay_10 : decode cX6_closeDay 10 = .ok (.aload_n 0, 1) := by decide +kernel
theorem dX6_closeDay_11 : decode cX6_closeDay 11 = .ok (.iload_n 2, 1) := by decide +kernel
theorem dX6_closeDay_12 : decode cX6_closeDay 12 = .ok (.iconst 3, 1) := by decide +kernel
theorem dX6_closeDay_13 : decode cX6_closeDay 13 = .ok (.invokevirtual 198, 3) := by decide +kernel
theorem dX6_closeDay_16 : decode cX6_closeDay 16 = .ok (.iadd, 1) := by decide +kernel
theorem dX6_closeDay_17 : decode cX6_closeDay 17 = .ok (.istore_n 1, 1) := by decide +kernel
theorem dX6_closeDay_18 : decode cX6_closeDay 18 = .ok (.iinc 2 1, 3) := by decide +kernel
theorem dX6_closeDay_21 : decode cX6_closeDay 21 = .ok (.goto (-17), 3) := by decide +kernel
theorem dX6_closeDay_24 : decode cX6_closeDay 24 = .ok (.aload_n 0, 1) := by decide +kernel
theorem dX6_closeDay_25 : decode cX6_closeDay 25 = .ok (.invokevirtual 201, 3) := by decide +kernel
theorem dX6_closeDay_28 : decode cX6_closeDay 28 = .ok (.aload_n 0, 1) := by decide +kernel
theorem dX6_closeDay_29 : decode cX6_closeDay 29 = .ok (.invokevirtual 204, 3) := by decide +kernel
theorem dX6_closeDay_32 : decode cX6_closeDay 32 = .ok (.aload_n 0, 1) := by decide +kernel
theorem dX6_closeDay_33 : decode cX6_closeDay 33 = .ok (.getfield 12, 3) := by decide +kernel
theorem dX6_closeDay_36 : decode cX6_closeDay 36 = .ok (.dup, 1) := by decide +kernel
theorem dX6_closeDay_37 : decode cX6_closeDay 37 = .ok (.getfield 68, 3) := by decide +kernel
theorem dX6_closeDay_40 : decode cX6_closeDay 40 = .ok (.iconst 1, 1) := by decide +kernel
theorem dX6_closeDay_41 : decode cX6_closeDay 41 = .ok (.iadd, 1) := by decide +kernel
theorem dX6_closeDay_42 : decode cX6_closeDay 42 = .ok (.putfield 68, 3) := by decide +kernel
theorem dX6_closeDay_45 : decode cX6_closeDay 45 = .ok (.aload_n 0, 1) := by decide +kernel
theorem dX6_closeDay_46 : decode cX6_closeDay 46 = .ok (.getfield 21, 3) := by decide +kernel
theorem dX6_closeDay_49 : decode cX6_closeDay 49 = .ok (.invokevirtual 207, 3) := by decide +kernel
theorem dX6_closeDay_52 : decode cX6_closeDay 52 = .ok (.aload_n 0, 1) := by decide +kernel
theorem dX6_closeDay_53 : decode cX6_closeDay 53 = .ok (.invokevirtual 210, 3) := by decide +kernel
theorem dX6_closeDay_56 : decode cX6_closeDay 56 = .ok (.iload_n 1, 1) := by decide +kernel
theorem dX6_closeDay_57 : decode cX6_closeDay 57 = .ok (.ireturn, 1) := by decide +kernel
theorem dX6_giveBackWhatMayNotStay_0 : decode cX6_giveBackWhatMayNotStay 0 = .ok (.iconst 0, 1) := by decide +kernel
theorem dX6_giveBackWhatMayNotStay_1 : decode cX6_giveBackWhatMayNotStay 1 = .ok (.istore_n 1, 1) := by decide +kernel
theorem dX6_giveBackWhatMayNotStay_2 : decode cX6_giveBackWhatMayNotStay 2 = .ok (.iload_n 1, 1) := by decide +kernel
theorem dX6_giveBackWhatMayNotStay_3 : decode cX6_giveBackWhatMayNotStay 3 = .ok (.aload_n 0, 1) := by decide +kernel
theorem dX6_giveBackWhatMayNotStay_4 : decode cX6_giveBackWhatMayNotStay 4 = .ok (.getfield 28, 3) := by decide +kernel
theorem dX6_giveBackWhatMayNotStay_7 : decode cX6_giveBackWhatMayNotStay 7 = .ok (.invokevirtual 121, 3) := by decide +kernel
theorem dX6_giveBackWhatMayNotStay_10 : decode cX6_giveBackWhatMayNotStay 10 = .ok (.if_icmp .ge 70, 3) := by decide +kernel
theorem dX6_giveBackWhatMayNotStay_13 : decode cX6_giveBackWhatMayNotStay 13 = .ok (.aload_n 0, 1) := by decide +kernel
theorem dX6_giveBackWhatMayNotStay_14 : decode cX6_giveBackWhatMayNotStay 14 = .ok (.getfield 28, 3) := by decide +kernel
theorem dX6_giveBackWhatMayNotStay_17 : decode cX6_giveBackWhatMayNotStay 17 = .ok (.iload_n 1, 1) := by decide +kernel
theorem dX6_giveBackWhatMayNotStay_18 : decode cX6_giveBackWhatMayNotStay 18 = .ok (.invokevirtual 125, 3) := by decide +kernel
theorem dX6_giveBackWhatMayNotStay_21 : decode cX6_giveBackWhatMayNotStay 21 = .ok (.astore_n 2, 1) := by decide +kernel
theorem dX6_giveBackWhatMayNotStay_22 : decode cX6_giveBackWhatMayNotStay 22 = .ok (.aload_n 2, 1) := by decide +kernel
theorem dX6_giveBackWhatMayNotStay_23 : decode cX6_giveBackWhatMayNotStay 23 = .ok (.ifnull 51, 3) := by decide +kernel
theorem dX6_giveBackWhatMayNotStay_26 : decode cX6_giveBackWhatMayNotStay 26 = .ok (.aload_n 2, 1) := by decide +kernel
theorem dX6_giveBackWhatMayNotStay_27 : decode cX6_giveBackWhatMayNotStay 27 = .ok (.getfield 101, 3) := by decide +kernel
theorem dX6_giveBackWhatMayNotStay_30 : decode cX6_giveBackWhatMayNotStay 30 = .ok (.getfield 213, 3) := by decide +kernel
theorem dX6_giveBackWhatMayNotStay_33 : decode cX6_giveBackWhatMayNotStay 33 = .ok (.ifCond .ne 41, 3) := by decide +kernel
theorem dX6_giveBackWhatMayNotStay_36 : decode cX6_giveBackWhatMayNotStay 36 = .ok (.aload_n 2, 1) := by decide +kernel
theorem dX6_giveBackWhatMayNotStay_37 : decode cX6_giveBackWhatMayNotStay 37 = .ok (.getfield 115, 3) := by decide +kernel
theorem dX6_giveBackWhatMayNotStay_40 : decode cX6_giveBackWhatMayNotStay 40 = .ok (.iconst 2, 1) := by decide +kernel
theorem dX6_giveBackWhatMayNotStay_41 : decode cX6_giveBackWhatMayNotStay 41 = .ok (.if_icmp .eq 11, 3) := by decide +kernel
theorem dX6_giveBackWhatMayNotStay_44 : decode cX6_giveBackWhatMayNotStay 44 = .ok (.aload_n 2, 1) := by decide +kernel
theorem dX6_giveBackWhatMayNotStay_45 : decode cX6_giveBackWhatMayNotStay 45 = .ok (.getfield 115, 3) := by decide +kernel
theorem dX6_giveBackWhatMayNotStay_48 : decode cX6_giveBackWhatMayNotStay 48 = .ok (.iconst 3, 1) := by decide +kernel
theorem dX6_giveBackWhatMayNotStay_49 : decode cX6_giveBackWhatMayNotStay 49 = .ok (.if_icmp .ne 25, 3) := by decide +kernel
theorem dX6_giveBackWhatMayNotStay_52 : decode cX6_giveBackWhatMayNotStay 52 = .ok (.aload_n 0, 1) := by decide +kernel
theorem dX6_giveBackWhatMayNotStay_53 : decode cX6_giveBackWhatMayNotStay 53 = .ok (.getfield 12, 3) := by decide +kernel
theorem dX6_giveBackWhatMayNotStay_56 : decode cX6_giveBackWhatMayNotStay 56 = .ok (.aload_n 2, 1) := by decide +kernel
theorem dX6_giveBackWhatMayNotStay_57 : decode cX6_giveBackWhatMayNotStay 57 = .ok (.getfield 101, 3) := by decide +kernel
theorem dX6_giveBackWhatMayNotStay_60 : decode cX6_giveBackWhatMayNotStay 60 = .ok (.getfield 69, 3) := by decide +kernel
theorem dX6_giveBackWhatMayNotStay_63 : decode cX6_giveBackWhatMayNotStay 63 = .ok (.invokevirtual 72, 3) := by decide +kernel
theorem dX6_giveBackWhatMayNotStay_66 : decode cX6_giveBackWhatMayNotStay 66 = .ok (.ifCond .eq 8, 3) := by decide +kernel
theorem dX6_giveBackWhatMayNotStay_69 : decode cX6_giveBackWhatMayNotStay 69 = .ok (.aload_n 2, 1) := by decide +kernel
theorem dX6_giveBackWhatMayNotStay_70 : decode cX6_giveBackWhatMayNotStay 70 = .ok (.invokevirtual 216, 3) := by decide +kernel
theorem dX6_giveBackWhatMayNotStay_73 : decode cX6_giveBackWhatMayNotStay 73 = .ok (.pop, 1) := by decide +kernel
theorem dX6_giveBackWhatMayNotStay_74 : decode cX6_giveBackWhatMayNotStay 74 = .ok (.iinc 1 1, 3) := by decide +kernel
theorem dX6_giveBackWhatMayNotStay_77 : decode cX6_giveBackWhatMayNotStay 77 = .ok (.goto (-75), 3) := by decide +kernel
theorem dX6_giveBackWhatMayNotStay_80 : decode cX6_giveBackWhatMayNotStay 80 = .ok (.return_, 1) := by decide +kernel
theorem dX6_chargeBanks_0 : decode cX6_chargeBanks 0 = .ok (.iconst 0, 1) := by decide +kernel
theorem dX6_chargeBanks_1 : decode cX6_chargeBanks 1 = .ok (.istore_n 1, 1) := by decide +kernel
theorem dX6_chargeBanks_2 : decode cX6_chargeBanks 2 = .ok (.iload_n 1, 1) := by decide +kernel
theorem dX6_chargeBanks_3 : decode cX6_chargeBanks 3 = .ok (.bipush 6, 2) := by decide +kernel
theorem dX6_chargeBanks_5 : decode cX6_chargeBanks 5 = .ok (.if_icmp .ge 75, 3) := by decide +kernel
theorem dX6_chargeBanks_8 : decode cX6_chargeBanks 8 = .ok (.iconst 0, 1) := by decide +kernel
theorem dX6_chargeBanks_9 : decode cX6_chargeBanks 9 = .ok (.istore_n 2, 1) := by decide +kernel
theorem dX6_chargeBanks_10 : decode cX6_chargeBanks 10 = .ok (.iload_n 2, 1) := by decide +kernel
theorem dX6_chargeBanks_11 : decode cX6_chargeBanks 11 = .ok (.iconst 3, 1) := by decide +kernel
theorem dX6_chargeBanks_12 : decode cX6_chargeBanks 12 = .ok (.if_icmp .ge 62, 3) := by decide +kernel
theorem dX6_chargeBanks_15 : decode cX6_chargeBanks 15 = .ok (.aload_n 0, 1) := by decide +kernel
theorem dX6_chargeBanks_16 : decode cX6_chargeBanks 16 = .ok (.getfield 21, 3) := by decide +kernel
theorem dX6_chargeBanks_19 : decode cX6_chargeBanks 19 = .ok (.iload_n 1, 1) := by decide +kernel
theorem dX6_chargeBanks_20 : decode cX6_chargeBanks 20 = .ok (.iload_n 2, 1) := by decide +kernel
theorem dX6_chargeBanks_21 : decode cX6_chargeBanks 21 = .ok (.invokevirtual 219, 3) := by decide +kernel
theorem dX6_chargeBanks_24 : decode cX6_chargeBanks 24 = .ok (.lneg, 1) := by decide +kernel
theorem dX6_chargeBanks_25 : decode cX6_chargeBanks 25 = .ok (.lconst 0, 1) := by decide +kernel
theorem dX6_chargeBanks_26 : decode cX6_chargeBanks 26 = .ok (.invokestatic 223, 3) := by decide +kernel
theorem dX6_chargeBanks_29 : decode cX6_chargeBanks 29 = .ok (.lstore_n 3, 1) := by decide +kernel
theorem dX6_chargeBanks_30 : decode cX6_chargeBanks 30 = .ok (.aload_n 0, 1) := by decide +kernel
theorem dX6_chargeBanks_31 : decode cX6_chargeBanks 31 = .ok (.iload_n 1, 1) := by decide +kernel
theorem dX6_chargeBanks_32 : decode cX6_chargeBanks 32 = .ok (.iload_n 2, 1) := by decide +kernel
theorem dX6_chargeBanks_33 : decode cX6_chargeBanks 33 = .ok (.aload_n 0, 1) := by decide +kernel
theorem dX6_chargeBanks_34 : decode cX6_chargeBanks 34 = .ok (.getfield 28, 3) := by decide +kernel
theorem dX6_chargeBanks_37 : decode cX6_chargeBanks 37 = .ok (.iload_n 1, 1) := by decide +kernel
theorem dX6_chargeBanks_38 : decode cX6_chargeBanks 38 = .ok (.iload_n 2, 1) := by decide +kernel
theorem dX6_chargeBanks_39 : decode cX6_chargeBanks 39 = .ok (.aload_n 0, 1) := by decide +kernel
theorem dX6_chargeBanks_40 : decode cX6_chargeBanks 40 = .ok (.getfield 12, 3) := by decide +kernel
theorem dX6_chargeBanks_43 : decode cX6_chargeBanks 43 = .ok (.getfield 68, 3) := by decide +kernel
theorem dX6_chargeBanks_46 : decode cX6_chargeBanks 46 = .ok (.invokevirtual 229, 3) := by decide +kernel
theorem dX6_chargeBanks_49 : decode cX6_chargeBanks 49 = .ok (.i2l, 1) := by decide +kernel
theorem dX6_chargeBanks_50 : decode cX6_chargeBanks 50 = .ok (.invokevirtual 233, 3) := by decide +kernel
theorem dX6_chargeBanks_53 : decode cX6_chargeBanks 53 = .ok (.aload_n 0, 1) := by decide +kernel
theorem dX6_chargeBanks_54 : decode cX6_chargeBanks 54 = .ok (.iload_n 1, 1) := by decide +kernel
theorem dX6_chargeBanks_55 : decode cX6_chargeBanks 55 = .ok (.iload_n 2, 1) := by decide +kernel
theorem dX6_chargeBanks_56 : decode cX6_chargeBanks 56 = .ok (.lload_n 3, 1) := by decide +kernel
theorem dX6_chargeBanks_57 : decode cX6_chargeBanks 57 = .ok (.ldc2_w 237, 3) := by decide +kernel
theorem dX6_chargeBanks_60 : decode cX6_chargeBanks 60 = .ok (.ladd, 1) := by decide +kernel
theorem dX6_chargeBanks_61 : decode cX6_chargeBanks 61 = .ok (.ldc2_w 239, 3) := by decide +kernel
theorem dX6_chargeBanks_64 : decode cX6_chargeBanks 64 = .ok (.ldiv, 1) := by decide +kernel
theorem dX6_chargeBanks_65 : decode cX6_chargeBanks 65 = .ok (.invokevirtual 233, 3) := by decide +kernel
theorem dX6_chargeBanks_68 : decode cX6_chargeBanks 68 = .ok (.iinc 2 1, 3) := by decide +kernel
theorem dX6_chargeBanks_71 : decode cX6_chargeBanks 71 = .ok (.goto (-61), 3) := by decide +kernel
theorem dX6_chargeBanks_74 : decode cX6_chargeBanks 74 = .ok (.iinc 1 1, 3) := by decide +kernel
theorem dX6_chargeBanks_77 : decode cX6_chargeBanks 77 = .ok (.goto (-75), 3) := by decide +kernel
theorem dX6_chargeBanks_80 : decode cX6_chargeBanks 80 = .ok (.return_, 1) := by decide +kernel
theorem dX6_charge_0 : decode cX6_charge 0 = .ok (.lload_n 3, 1) := by decide +kernel
theorem dX6_charge_1 : decode cX6_charge 1 = .ok (.lconst 0, 1) := by decide +kernel
theorem dX6_charge_2 : decode cX6_charge 2 = .ok (.lcmp, 1) := by decide +kernel
theorem dX6_charge_3 : decode cX6_charge 3 = .ok (.ifCond .le 16, 3) := by decide +kernel
theorem dX6_charge_6 : decode cX6_charge 6 = .ok (.aload_n 0, 1) := by decide +kernel
theorem dX6_charge_7 : decode cX6_charge 7 = .ok (.getfield 21, 3) := by decide +kernel
theorem dX6_charge_10 : decode cX6_charge 10 = .ok (.iload_n 1, 1) := by decide +kernel
theorem dX6_charge_11 : decode cX6_charge 11 = .ok (.bipush 6, 2) := by decide +kernel
theorem dX6_charge_13 : decode cX6_charge 13 = .ok (.iload_n 2, 1) := by decide +kernel
theorem dX6_charge_14 : decode cX6_charge 14 = .ok (.lload_n 3, 1) := by decide +kernel
theorem dX6_charge_15 : decode cX6_charge 15 = .ok (.iconst (-1), 1) := by decide +kernel
theorem dX6_charge_16 : decode cX6_charge 16 = .ok (.invokevirtual 241, 3) := by decide +kernel
theorem dX6_charge_19 : decode cX6_charge 19 = .ok (.return_, 1) := by decide +kernel
theorem dX6_letWaitingEnter_0 : decode cX6_letWaitingEnter 0 = .ok (.iconst 0, 1) := by decide +kernel
theorem dX6_letWaitingEnter_1 : decode cX6_letWaitingEnter 1 = .ok (.istore_n 1, 1) := by decide +kernel
theorem dX6_letWaitingEnter_2 : decode cX6_letWaitingEnter 2 = .ok (.iload_n 1, 1) := by decide +kernel
theorem dX6_letWaitingEnter_3 : decode cX6_letWaitingEnter 3 = .ok (.aload_n 0, 1) := by decide +kernel
theorem dX6_letWaitingEnter_4 : decode cX6_letWaitingEnter 4 = .ok (.getfield 28, 3) := by decide +kernel
theorem dX6_letWaitingEnter_7 : decode cX6_letWaitingEnter 7 = .ok (.invokevirtual 121, 3) := by decide +kernel
theorem dX6_letWaitingEnter_10 : decode cX6_letWaitingEnter 10 = .ok (.if_icmp .ge 68, 3) := by decide +kernel
theorem dX6_letWaitingEnter_13 : decode cX6_letWaitingEnter 13 = .ok (.aload_n 0, 1) := by decide +kernel
theorem dX6_letWaitingEnter_14 : decode cX6_letWaitingEnter 14 = .ok (.getfield 28, 3) := by decide +kernel
theorem dX6_letWaitingEnter_17 : decode cX6_letWaitingEnter 17 = .ok (.iload_n 1, 1) := by decide +kernel
theorem dX6_letWaitingEnter_18 : decode cX6_letWaitingEnter 18 = .ok (.invokevirtual 125, 3) := by decide +kernel
theorem dX6_letWaitingEnter_21 : decode cX6_letWaitingEnter 21 = .ok (.astore_n 2, 1) := by decide +kernel
theorem dX6_letWaitingEnter_22 : decode cX6_letWaitingEnter 22 = .ok (.aload_n 2, 1) := by decide +kernel
theorem dX6_letWaitingEnter_23 : decode cX6_letWaitingEnter 23 = .ok (.ifnull 49, 3) := by decide +kernel
theorem dX6_letWaitingEnter_26 : decode cX6_letWaitingEnter 26 = .ok (.aload_n 2, 1) := by decide +kernel
theorem dX6_letWaitingEnter_27 : decode cX6_letWaitingEnter 27 = .ok (.getfield 115, 3) := by decide +kernel
theorem dX6_letWaitingEnter_30 : decode cX6_letWaitingEnter 30 = .ok (.ifCond .ne 42, 3) := by decide +kernel
theorem dX6_letWaitingEnter_33 : decode cX6_letWaitingEnter 33 = .ok (.aload_n 2, 1) := by decide +kernel
theorem dX6_letWaitingEnter_34 : decode cX6_letWaitingEnter 34 = .ok (.getfield 101, 3) := by decide +kernel
theorem dX6_letWaitingEnter_37 : decode cX6_letWaitingEnter 37 = .ok (.getfield 62, 3) := by decide +kernel
theorem dX6_letWaitingEnter_40 : decode cX6_letWaitingEnter 40 = .ok (.aload_n 0, 1) := by decide +kernel
theorem dX6_letWaitingEnter_41 : decode cX6_letWaitingEnter 41 = .ok (.getfield 12, 3) := by decide +kernel
theorem dX6_letWaitingEnter_44 : decode cX6_letWaitingEnter 44 = .ok (.getfield 68, 3) := by decide +kernel
theorem dX6_letWaitingEnter_47 : decode cX6_letWaitingEnter 47 = .ok (.if_icmp .gt 25, 3) := by decide +kernel
theorem dX6_letWaitingEnter_50 : decode cX6_letWaitingEnter 50 = .ok (.aload_n 0, 1) := by decide +kernel
theorem dX6_letWaitingEnter_51 : decode cX6_letWaitingEnter 51 = .ok (.getfield 12, 3) := by decide +kernel
theorem dX6_letWaitingEnter_54 : decode cX6_letWaitingEnter 54 = .ok (.aload_n 2, 1) := by decide +kernel
theorem dX6_letWaitingEnter_55 : decode cX6_letWaitingEnter 55 = .ok (.getfield 101, 3) := by decide +kernel
theorem dX6_letWaitingEnter_58 : decode cX6_letWaitingEnter 58 = .ok (.getfield 69, 3) := by decide +kernel
theorem dX6_letWaitingEnter_61 : decode cX6_letWaitingEnter 61 = .ok (.invokevirtual 72, 3) := by decide +kernel
theorem dX6_letWaitingEnter_64 : decode cX6_letWaitingEnter 64 = .ok (.ifCond .eq 8, 3) := by decide +kernel
theorem dX6_letWaitingEnter_67 : decode cX6_letWaitingEnter 67 = .ok (.aload_n 0, 1) := by decide +kernel
theorem dX6_letWaitingEnter_68 : decode cX6_letWaitingEnter 68 = .ok (.aload_n 2, 1) := by decide +kernel
theorem dX6_letWaitingEnter_69 : decode cX6_letWaitingEnter 69 = .ok (.invokevirtual 76, 3) := by decide +kernel
theorem dX6_letWaitingEnter_72 : decode cX6_letWaitingEnter 72 = .ok (.iinc 1 1, 3) := by decide +kernel
theorem dX6_letWaitingEnter_75 : decode cX6_letWaitingEnter 75 = .ok (.goto (-73), 3) := by decide +kernel
theorem dX6_letWaitingEnter_78 : decode cX6_letWaitingEnter 78 = .ok (.return_, 1) := by decide +kernel
theorem dX7_init_0 : decode cX7_init 0 = .ok (.aload_n 0, 1) := by decide +kernel
theorem dX7_init_1 : decode cX7_init 1 = .ok (.invokespecial 3, 3) := by decide +kernel
theorem dX7_init_4 : decode cX7_init 4 = .ok (.aload_n 0, 1) := by decide +kernel
theorem dX7_init_5 : decode cX7_init 5 = .ok (.iconst 0, 1) := by decide +kernel
theorem dX7_init_6 : decode cX7_init 6 = .ok (.putfield 9, 3) := by decide +kernel
theorem dX7_init_9 : decode cX7_init 9 = .ok (.aload_n 0, 1) := by decide +kernel
theorem dX7_init_10 : decode cX7_init 10 = .ok (.iconst (-1), 1) := by decide +kernel
theorem dX7_init_11 : decode cX7_init 11 = .ok (.putfield 15, 3) := by decide +kernel
theorem dX7_init_14 : decode cX7_init 14 = .ok (.aload_n 0, 1) := by decide +kernel
theorem dX7_init_15 : decode cX7_init 15 = .ok (.iconst (-1), 1) := by decide +kernel
theorem dX7_init_16 : decode cX7_init 16 = .ok (.putfield 18, 3) := by decide +kernel
theorem dX7_init_19 : decode cX7_init 19 = .ok (.aload_n 0, 1) := by decide +kernel
theorem dX7_init_20 : decode cX7_init 20 = .ok (.iconst (-1), 1) := by decide +kernel
theorem dX7_init_21 : decode cX7_init 21 = .ok (.putfield 21, 3) := by decide +kernel
theorem dX7_init_24 : decode cX7_init 24 = .ok (.aload_n 0, 1) := by decide +kernel
theorem dX7_init_25 : decode cX7_init 25 = .ok (.iload_n 1, 1) := by decide +kernel
theorem dX7_init_26 : decode cX7_init 26 = .ok (.putfield 24, 3) := by decide +kernel
theorem dX7_init_29 : decode cX7_init 29 = .ok (.aload_n 0, 1) := by decide +kernel
theorem dX7_init_30 : decode cX7_init 30 = .ok (.aload_n 2, 1) := by decide +kernel
theorem dX7_init_31 : decode cX7_init 31 = .ok (.putfield 27, 3) := by decide +kernel
theorem dX7_init_34 : decode cX7_init 34 = .ok (.return_, 1) := by decide +kernel
theorem dX7_hasEnded_0 : decode cX7_hasEnded 0 = .ok (.aload_n 0, 1) := by decide +kernel
theorem dX7_hasEnded_1 : decode cX7_hasEnded 1 = .ok (.getfield 9, 3) := by decide +kernel
theorem dX7_hasEnded_4 : decode cX7_hasEnded 4 = .ok (.iconst 4, 1) := by decide +kernel
theorem dX7_hasEnded_5 : decode cX7_hasEnded 5 = .ok (.if_icmp .eq 11, 3) := by decide +kernel
theorem dX7_hasEnded_8 : decode cX7_hasEnded 8 = .ok (.aload_n 0, 1) := by decide +kernel
theorem dX7_hasEnded_9 : decode cX7_hasEnded 9 = .ok (.getfield 9, 3) := by decide +kernel
theorem dX7_hasEnded_12 : decode cX7_hasEnded 12 = .ok (.iconst 5, 1) := by decide +kernel
theorem dX7_hasEnded_13 : decode cX7_hasEnded 13 = .ok (.if_icmp .ne 7, 3) := by decide +kernel
theorem dX7_hasEnded_16 : decode cX7_hasEnded 16 = .ok (.iconst 1, 1) := by decide +kernel
theorem dX7_hasEnded_17 : decode cX7_hasEnded 17 = .ok (.goto 4, 3) := by decide +kernel
theorem dX7_hasEnded_20 : decode cX7_hasEnded 20 = .ok (.iconst 0, 1) := by decide +kernel
theorem dX7_hasEnded_21 : decode cX7_hasEnded 21 = .ok (.ireturn, 1) := by decide +kernel
theorem dX7_isIn_0 : decode cX7_isIn 0 = .ok (.aload_n 0, 1) := by decide +kernel
theorem dX7_isIn_1 : decode cX7_isIn 1 = .ok (.getfield 9, 3) := by decide +kernel
theorem dX7_isIn_4 : decode cX7_isIn 4 = .ok (.iload_n 1, 1) := by decide +kernel
theorem dX7_isIn_5 : decode cX7_isIn 5 = .ok (.if_icmp .ne 18, 3) := by decide +kernel
theorem dX7_isIn_8 : decode cX7_isIn 8 = .ok (.aload_n 0, 1) := by decide +kernel
theorem dX7_isIn_9 : decode cX7_isIn 9 = .ok (.getfield 27, 3) := by decide +kernel
theorem dX7_isIn_12 : decode cX7_isIn 12 = .ok (.getfield 31, 3) := by decide +kernel
theorem dX7_isIn_15 : decode cX7_isIn 15 = .ok (.iload_n 2, 1) := by decide +kernel
theorem dX7_isIn_16 : decode cX7_isIn 16 = .ok (.if_icmp .ne 7, 3) := by decide +kernel
theorem dX7_isIn_19 : decode cX7_isIn 19 = .ok (.iconst 1, 1) := by decide +kernel
theorem dX7_isIn_20 : decode cX7_isIn 20 = .ok (.goto 4, 3) := by decide +kernel
theorem dX7_isIn_23 : decode cX7_isIn 23 = .ok (.iconst 0, 1) := by decide +kernel
theorem dX7_isIn_24 : decode cX7_isIn 24 = .ok (.ireturn, 1) := by decide +kernel
theorem dX7_isBehind_0 : decode cX7_isBehind 0 = .ok (.aload_n 0, 1) := by decide +kernel
theorem dX7_isBehind_1 : decode cX7_isBehind 1 = .ok (.getfield 27, 3) := by decide +kernel
theorem dX7_isBehind_4 : decode cX7_isBehind 4 = .ok (.getfield 36, 3) := by decide +kernel
theorem dX7_isBehind_7 : decode cX7_isBehind 7 = .ok (.aload_n 1, 1) := by decide +kernel
theorem dX7_isBehind_8 : decode cX7_isBehind 8 = .ok (.getfield 27, 3) := by decide +kernel
theorem dX7_isBehind_11 : decode cX7_isBehind 11 = .ok (.getfield 36, 3) := by decide +kernel
theorem dX7_isBehind_14 : decode cX7_isBehind 14 = .ok (.if_icmp .lt 31, 3) := by decide +kernel
theorem dX7_isBehind_17 : decode cX7_isBehind 17 = .ok (.aload_n 0, 1) := by decide +kernel
theorem dX7_isBehind_18 : decode cX7_isBehind 18 = .ok (.getfield 27, 3) := by decide +kernel
theorem dX7_isBehind_21 : decode cX7_isBehind 21 = .ok (.getfield 36, 3) := by decide +kernel
theorem dX7_isBehind_24 : decode cX7_isBehind 24 = .ok (.aload_n 1, 1) := by decide +kernel
theorem dX7_isBehind_25 : decode cX7_isBehind 25 = .ok (.getfield 27, 3) := by decide +kernel
theorem dX7_isBehind_28 : decode cX7_isBehind 28 = .ok (.getfield 36, 3) := by decide +kernel
theorem dX7_isBehind_31 : decode cX7_isBehind 31 = .ok (.if_icmp .ne 18, 3) := by decide +kernel
theorem dX7_isBehind_34 : decode cX7_isBehind 34 = .ok (.aload_n 0, 1) := by decide +kernel
theorem dX7_isBehind_35 : decode cX7_isBehind 35 = .ok (.getfield 24, 3) := by decide +kernel
theorem dX7_isBehind_38 : decode cX7_isBehind 38 = .ok (.aload_n 1, 1) := by decide +kernel
theorem dX7_isBehind_39 : decode cX7_isBehind 39 = .ok (.getfield 24, 3) := by decide +kernel
theorem dX7_isBehind_42 : decode cX7_isBehind 42 = .ok (.if_icmp .le 7, 3) := by decide +kernel
theorem dX7_isBehind_45 : decode cX7_isBehind 45 = .ok (.iconst 1, 1) := by decide +kernel
theorem dX7_isBehind_46 : decode cX7_isBehind 46 = .ok (.goto 4, 3) := by decide +kernel
theorem dX7_isBehind_49 : decode cX7_isBehind 49 = .ok (.iconst 0, 1) := by decide +kernel
theorem dX7_isBehind_50 : decode cX7_isBehind 50 = .ok (.ireturn, 1) := by decide +kernel
theorem dX7_canBeLegWith_0 : decode cX7_canBeLegWith 0 = .ok (.aload_n 0, 1) := by decide +kernel
theorem dX7_canBeLegWith_1 : decode cX7_canBeLegWith 1 = .ok (.invokevirtual 39, 3) := by decide +kernel
theorem dX7_canBeLegWith_4 : decode cX7_canBeLegWith 4 = .ok (.ifCond .ne 79, 3) := by decide +kernel
theorem dX7_canBeLegWith_7 : decode cX7_canBeLegWith 7 = .ok (.aload_n 1, 1) := by decide +kernel
theorem dX7_canBeLegWith_8 : decode cX7_canBeLegWith 8 = .ok (.invokevirtual 39, 3) := by decide +kernel
theorem dX7_canBeLegWith_11 : decode cX7_canBeLegWith 11 = .ok (.ifCond .ne 72, 3) := by decide +kernel
theorem dX7_canBeLegWith_14 : decode cX7_canBeLegWith 14 = .ok (.aload_n 0, 1) := by decide +kernel
theorem dX7_canBeLegWith_15 : decode cX7_canBeLegWith 15 = .ok (.getfield 43, 3) := by decide +kernel
theorem dX7_canBeLegWith_18 : decode cX7_canBeLegWith 18 = .ok (.ifnonnull 65, 3) := by decide +kernel
theorem dX7_canBeLegWith_21 : decode cX7_canBeLegWith 21 = .ok (.aload_n 1, 1) := by decide +kernel
theorem dX7_canBeLegWith_22 : decode cX7_canBeLegWith 22 = .ok (.getfield 43, 3) := by decide +kernel
theorem dX7_canBeLegWith_25 : decode cX7_canBeLegWith 25 = .ok (.ifnonnull 58, 3) := by decide +kernel
theorem dX7_canBeLegWith_28 : decode cX7_canBeLegWith 28 = .ok (.aload_n 0, 1) := by decide +kernel
theorem dX7_canBeLegWith_29 : decode cX7_canBeLegWith 29 = .ok (.getfield 27, 3) := by decide +kernel
theorem dX7_canBeLegWith_32 : decode cX7_canBeLegWith 32 = .ok (.getfield 47, 3) := by decide +kernel
theorem dX7_canBeLegWith_35 : decode cX7_canBeLegWith 35 = .ok (.ifCond .eq 48, 3) := by decide +kernel
theorem dX7_canBeLegWith_38 : decode cX7_canBeLegWith 38 = .ok (.aload_n 1, 1) := by decide +kernel
theorem dX7_canBeLegWith_39 : decode cX7_canBeLegWith 39 = .ok (.getfield 27, 3) := by decide +kernel
theorem dX7_canBeLegWith_42 : decode cX7_canBeLegWith 42 = .ok (.getfield 47, 3) := by decide +kernel
theorem dX7_canBeLegWith_45 : decode cX7_canBeLegWith 45 = .ok (.ifCond .eq 38, 3) := by decide +kernel
theorem dX7_canBeLegWith_48 : decode cX7_canBeLegWith 48 = .ok (.aload_n 0, 1) := by decide +kernel
theorem dX7_canBeLegWith_49 : decode cX7_canBeLegWith 49 = .ok (.getfield 27, 3) := by decide +kernel
theorem dX7_canBeLegWith_52 : decode cX7_canBeLegWith 52 = .ok (.getfield 31, 3) := by decide +kernel
theorem dX7_canBeLegWith_55 : decode cX7_canBeLegWith 55 = .ok (.aload_n 1, 1) := by decide +kernel
theorem dX7_canBeLegWith_56 : decode cX7_canBeLegWith 56 = .ok (.getfield 27, 3) := by decide +kernel
theorem dX7_canBeLegWith_59 : decode cX7_canBeLegWith 59 = .ok (.getfield 31, 3) := by decide +kernel
theorem dX7_canBeLegWith_62 : decode cX7_canBeLegWith 62 = .ok (.if_icmp .eq 21, 3) := by decide +kernel
theorem dX7_canBeLegWith_65 : decode cX7_canBeLegWith 65 = .ok (.aload_n 0, 1) := by decide +kernel
theorem dX7_canBeLegWith_66 : decode cX7_canBeLegWith 66 = .ok (.getfield 27, 3) := by decide +kernel
theorem dX7_canBeLegWith_69 : decode cX7_canBeLegWith 69 = .ok (.aload_n 1, 1) := by decide +kernel
theorem dX7_canBeLegWith_70 : decode cX7_canBeLegWith 70 = .ok (.getfield 27, 3) := by decide +kernel
theorem dX7_canBeLegWith_73 : decode cX7_canBeLegWith 73 = .ok (.invokevirtual 51, 3) := by decide +kernel
theorem dX7_canBeLegWith_76 : decode cX7_canBeLegWith 76 = .ok (.ifCond .eq 7, 3) := by decide +kernel
theorem dX7_canBeLegWith_79 : decode cX7_canBeLegWith 79 = .ok (.iconst 1, 1) := by decide +kernel
theorem dX7_canBeLegWith_80 : decode cX7_canBeLegWith 80 = .ok (.goto 4, 3) := by decide +kernel
theorem dX7_canBeLegWith_83 : decode cX7_canBeLegWith 83 = .ok (.iconst 0, 1) := by decide +kernel
theorem dX7_canBeLegWith_84 : decode cX7_canBeLegWith 84 = .ok (.ireturn, 1) := by decide +kernel
theorem dX7_giveBack_0 : decode cX7_giveBack 0 = .ok (.aload_n 0, 1) := by decide +kernel
theorem dX7_giveBack_1 : decode cX7_giveBack 1 = .ok (.iconst 5, 1) := by decide +kernel
theorem dX7_giveBack_2 : decode cX7_giveBack 2 = .ok (.putfield 9, 3) := by decide +kernel
theorem dX7_giveBack_5 : decode cX7_giveBack 5 = .ok (.aload_n 0, 1) := by decide +kernel
theorem dX7_giveBack_6 : decode cX7_giveBack 6 = .ok (.getfield 43, 3) := by decide +kernel
theorem dX7_giveBack_9 : decode cX7_giveBack 9 = .ok (.ifnull 13, 3) := by decide +kernel
theorem dX7_giveBack_12 : decode cX7_giveBack 12 = .ok (.aload_n 0, 1) := by decide +kernel
theorem dX7_giveBack_13 : decode cX7_giveBack 13 = .ok (.getfield 43, 3) := by decide +kernel
theorem dX7_giveBack_16 : decode cX7_giveBack 16 = .ok (.invokevirtual 39, 3) := by decide +kernel
theorem dX7_giveBack_19 : decode cX7_giveBack 19 = .ok (.ifCond .eq 5, 3) := by decide +kernel
theorem dX7_giveBack_22 : decode cX7_giveBack 22 = .ok (.iconst 1, 1) := by decide +kernel
theorem dX7_giveBack_23 : decode cX7_giveBack 23 = .ok (.ireturn, 1) := by decide +kernel
theorem dX7_giveBack_24 : decode cX7_giveBack 24 = .ok (.aload_n 0, 1) := by decide +kernel
theorem dX7_giveBack_25 : decode cX7_giveBack 25 = .ok (.getfield 43, 3) := by decide +kernel
theorem dX7_giveBack_28 : decode cX7_giveBack 28 = .ok (.iconst 5, 1) := by decide +kernel
theorem dX7_giveBack_29 : decode cX7_giveBack 29 = .ok (.putfield 9, 3) := by decide +kernel
theorem dX7_giveBack_32 : decode cX7_giveBack 32 = .ok (.iconst 2, 1) := by decide +kernel
theorem dX7_giveBack_33 : decode cX7_giveBack 33 = .ok (.ireturn, 1) := by decide +kernel
theorem dX8_init_0 : decode cX8_init 0 = .ok (.aload_n 0, 1) := by decide +kernel
theorem dX8_init_1 : decode cX8_init 1 = .ok (.invokespecial 3, 3) := by decide +kernel
theorem dX8_init_4 : decode cX8_init 4 = .ok (.aload_n 0, 1) := by decide +kernel
theorem dX8_init_5 : decode cX8_init 5 = .ok (.new 9, 3) := by decide +kernel
theorem dX8_init_8 : decode cX8_init 8 = .ok (.dup, 1) := by decide +kernel
theorem dX8_init_9 : decode cX8_init 9 = .ok (.invokespecial 11, 3) := by decide +kernel
theorem dX8_init_12 : decode cX8_init 12 = .ok (.putfield 12, 3) := by decide +kernel
theorem dX8_init_15 : decode cX8_init 15 = .ok (.aload_n 0, 1) := by decide +kernel
theorem dX8_init_16 : decode cX8_init 16 = .ok (.new 18, 3) := by decide +kernel
theorem dX8_init_19 : decode cX8_init 19 = .ok (.dup, 1) := by decide +kernel
theorem dX8_init_20 : decode cX8_init 20 = .ok (.sipush 600, 3) := by decide +kernel
theorem dX8_init_23 : decode cX8_init 23 = .ok (.invokespecial 20, 3) := by decide +kernel
theorem dX8_init_26 : decode cX8_init 26 = .ok (.putfield 23, 3) := by decide +kernel
theorem dX8_init_29 : decode cX8_init 29 = .ok (.aload_n 0, 1) := by decide +kernel
theorem dX8_init_30 : decode cX8_init 30 = .ok (.getfield 23, 3) := by decide +kernel
theorem dX8_init_33 : decode cX8_init 33 = .ok (.ldc2_w 27, 3) := by decide +kernel
theorem dX8_init_36 : decode cX8_init 36 = .ok (.invokevirtual 29, 3) := by decide +kernel
theorem dX8_init_39 : decode cX8_init 39 = .ok (.return_, 1) := by decide +kernel
theorem dX8_count_0 : decode cX8_count 0 = .ok (.aload_n 0, 1) := by decide +kernel
theorem dX8_count_1 : decode cX8_count 1 = .ok (.getfield 12, 3) := by decide +kernel
theorem dX8_count_4 : decode cX8_count 4 = .ok (.invokevirtual 33, 3) := by decide +kernel
theorem dX8_count_7 : decode cX8_count 7 = .ok (.ireturn, 1) := by decide +kernel
theorem dX8_isFull_0 : decode cX8_isFull 0 = .ok (.aload_n 0, 1) := by decide +kernel
theorem dX8_isFull_1 : decode cX8_isFull 1 = .ok (.getfield 12, 3) := by decide +kernel
theorem dX8_isFull_4 : decode cX8_isFull 4 = .ok (.invokevirtual 33, 3) := by decide +kernel
theorem dX8_isFull_7 : decode cX8_isFull 7 = .ok (.bipush 60, 2) := by decide +kernel
theorem dX8_isFull_9 : decode cX8_isFull 9 = .ok (.if_icmp .lt 7, 3) := by decide +kernel
theorem dX8_isFull_12 : decode cX8_isFull 12 = .ok (.iconst 1, 1) := by decide +kernel
theorem dX8_isFull_13 : decode cX8_isFull 13 = .ok (.goto 4, 3) := by decide +kernel
theorem dX8_isFull_16 : decode cX8_isFull 16 = .ok (.iconst 0, 1) := by decide +kernel
theorem dX8_isFull_17 : decode cX8_isFull 17 = .ok (.ireturn, 1) := by decide +kernel
theorem dX8_find_0 : decode cX8_find 0 = .ok (.iload_n 1, 1) := by decide +kernel
theorem dX8_find_1 : decode cX8_find 1 = .ok (.ifCond .lt 28, 3) := by decide +kernel
theorem dX8_find_4 : decode cX8_find 4 = .ok (.iload_n 1, 1) := by decide +kernel
theorem dX8_find_5 : decode cX8_find 5 = .ok (.aload_n 0, 1) := by decide +kernel
theorem dX8_find_6 : decode cX8_find 6 = .ok (.getfield 12, 3) := by decide +kernel
theorem dX8_find_9 : decode cX8_find 9 = .ok (.invokevirtual 33, 3) := by decide +kernel
theorem dX8_find_12 : decode cX8_find 12 = .ok (.if_icmp .ge 17, 3) := by decide +kernel
theorem dX8_find_15 : decode cX8_find 15 = .ok (.aload_n 0, 1) := by decide +kernel
theorem dX8_find_16 : decode cX8_find 16 = .ok (.getfield 12, 3) := by decide +kernel
theorem dX8_find_19 : decode cX8_find 19 = .ok (.iload_n 1, 1) := by decide +kernel
theorem dX8_find_20 : decode cX8_find 20 = .ok (.invokevirtual 37, 3) := by decide +kernel
theorem dX8_find_23 : decode cX8_find 23 = .ok (.checkcast 41, 3) := by decide +kernel
theorem dX8_find_26 : decode cX8_find 26 = .ok (.goto 4, 3) := by decide +kernel
theorem dX8_find_29 : decode cX8_find 29 = .ok (.aconst_null, 1) := by decide +kernel
theorem dX8_find_30 : decode cX8_find 30 = .ok (.areturn, 1) := by decide +kernel
theorem dX8_open_0 : decode cX8_open 0 = .ok (.new 41, 3) := by decide +kernel
theorem dX8_open_3 : decode cX8_open 3 = .ok (.dup, 1) := by decide +kernel
theorem dX8_open_4 : decode cX8_open 4 = .ok (.aload_n 0, 1) := by decide +kernel
theorem dX8_open_5 : decode cX8_open 5 = .ok (.getfield 12, 3) := by decide +kernel
theorem dX8_open_8 : decode cX8_open 8 = .ok (.invokevirtual 33, 3) := by decide +kernel
theorem dX8_open_11 : decode cX8_open 11 = .ok (.aload_n 1, 1) := by decide +kernel
theorem dX8_open_12 : decode cX8_open 12 = .ok (.invokespecial 43, 3) := by decide +kernel
theorem dX8_open_15 : decode cX8_open 15 = .ok (.astore_n 2, 1) := by decide +kernel
theorem dX8_open_16 : decode cX8_open 16 = .ok (.aload_n 0, 1) := by decide +kernel
theorem dX8_open_17 : decode cX8_open 17 = .ok (.getfield 12, 3) := by decide +kernel
theorem dX8_open_20 : decode cX8_open 20 = .ok (.aload_n 2, 1) := by decide +kernel
theorem dX8_open_21 : decode cX8_open 21 = .ok (.invokevirtual 46, 3) := by decide +kernel
theorem dX8_open_24 : decode cX8_open 24 = .ok (.pop, 1) := by decide +kernel
theorem dX8_open_25 : decode cX8_open 25 = .ok (.aload_n 2, 1) := by decide +kernel
theorem dX8_open_26 : decode cX8_open 26 = .ok (.areturn, 1) := by decide +kernel
theorem dX8_toldBy_0 : decode cX8_toldBy 0 = .ok (.aload_n 0, 1) := by decide +kernel
theorem dX8_toldBy_1 : decode cX8_toldBy 1 = .ok (.aload_n 0, 1) := by decide +kernel
theorem dX8_toldBy_2 : decode cX8_toldBy 2 = .ok (.getfield 23, 3) := by decide +kernel
theorem dX8_toldBy_5 : decode cX8_toldBy 5 = .ok (.iload_n 1, 1) := by decide +kernel
theorem dX8_toldBy_6 : decode cX8_toldBy 6 = .ok (.bipush 100, 2) := by decide +kernel
theorem dX8_toldBy_8 : decode cX8_toldBy 8 = .ok (.imul, 1) := by decide +kernel
theorem dX8_toldBy_9 : decode cX8_toldBy 9 = .ok (.iload_n 2, 1) := by decide +kernel
theorem dX8_toldBy_10 : decode cX8_toldBy 10 = .ok (.iadd, 1) := by decide +kernel
theorem dX8_toldBy_11 : decode cX8_toldBy 11 = .ok (.invokevirtual 50, 3) := by decide +kernel
theorem dX8_toldBy_14 : decode cX8_toldBy 14 = .ok (.l2i, 1) := by decide +kernel
theorem dX8_toldBy_15 : decode cX8_toldBy 15 = .ok (.invokevirtual 54, 3) := by decide +kernel
theorem dX8_toldBy_18 : decode cX8_toldBy 18 = .ok (.areturn, 1) := by decide +kernel
theorem dX8_keepMessage_0 : decode cX8_keepMessage 0 = .ok (.aload_n 0, 1) := by decide +kernel
theorem dX8_keepMessage_1 : decode cX8_keepMessage 1 = .ok (.getfield 23, 3) := by decide +kernel
theorem dX8_keepMessage_4 : decode cX8_keepMessage 4 = .ok (.iload_n 1, 1) := by decide +kernel
theorem dX8_keepMessage_5 : decode cX8_keepMessage 5 = .ok (.bipush 100, 2) := by decide +kernel
theorem dX8_keepMessage_7 : decode cX8_keepMessage 7 = .ok (.imul, 1) := by decide +kernel
theorem dX8_keepMessage_8 : decode cX8_keepMessage 8 = .ok (.iload_n 2, 1) := by decide +kernel
theorem dX8_keepMessage_9 : decode cX8_keepMessage 9 = .ok (.iadd, 1) := by decide +kernel
theorem dX8_keepMessage_10 : decode cX8_keepMessage 10 = .ok (.iload_n 3, 1) := by decide +kernel
theorem dX8_keepMessage_11 : decode cX8_keepMessage 11 = .ok (.i2l, 1) := by decide +kernel
theorem dX8_keepMessage_12 : decode cX8_keepMessage 12 = .ok (.invokevirtual 58, 3) := by decide +kernel
theorem dX8_keepMessage_15 : decode cX8_keepMessage 15 = .ok (.return_, 1) := by decide +kernel
theorem dX8_nextQueued_0 : decode cX8_nextQueued 0 = .ok (.aconst_null, 1) := by decide +kernel
theorem dX8_nextQueued_1 : decode cX8_nextQueued 1 = .ok (.astore 4, 2) := by decide +kernel
theorem dX8_nextQueued_3 : decode cX8_nextQueued 3 = .ok (.iconst 0, 1) := by decide +kernel
theorem dX8_nextQueued_4 : decode cX8_nextQueued 4 = .ok (.istore 5, 2) := by decide +kernel
theorem dX8_nextQueued_6 : decode cX8_nextQueued 6 = .ok (.iload 5, 2) := by decide +kernel
theorem dX8_nextQueued_8 : decode cX8_nextQueued 8 = .ok (.aload_n 0, 1) := by decide +kernel
theorem dX8_nextQueued_9 : decode cX8_nextQueued 9 = .ok (.getfield 12, 3) := by decide +kernel
theorem dX8_nextQueued_12 : decode cX8_nextQueued 12 = .ok (.invokevirtual 33, 3) := by decide +kernel
theorem dX8_nextQueued_15 : decode cX8_nextQueued 15 = .ok (.if_icmp .ge 77, 3) := by decide +kernel
theorem dX8_nextQueued_18 : decode cX8_nextQueued 18 = .ok (.aload_n 0, 1) := by decide +kernel
theorem dX8_nextQueued_19 : decode cX8_nextQueued 19 = .ok (.getfield 12, 3) := by decide +kernel
theorem dX8_nextQueued_22 : decode cX8_nextQueued 22 = .ok (.iload 5, 2) := by decide +kernel
theorem dX8_nextQueued_24 : decode cX8_nextQueued 24 = .ok (.invokevirtual 37, 3) := by decide +kernel
theorem dX8_nextQueued_27 : decode cX8_nextQueued 27 = .ok (.checkcast 41, 3) := by decide +kernel
theorem dX8_nextQueued_30 : decode cX8_nextQueued 30 = .ok (.astore 6, 2) := by decide +kernel
theorem dX8_nextQueued_32 : decode cX8_nextQueued 32 = .ok (.aload 6, 2) := by decide +kernel
theorem dX8_nextQueued_34 : decode cX8_nextQueued 34 = .ok (.iconst 2, 1) := by decide +kernel
theorem dX8_nextQueued_35 : decode cX8_nextQueued 35 = .ok (.iload_n 2, 1) := by decide +kernel
theorem dX8_nextQueued_36 : decode cX8_nextQueued 36 = .ok (.invokevirtual 62, 3) := by decide +kernel
theorem dX8_nextQueued_39 : decode cX8_nextQueued 39 = .ok (.ifCond .eq 47, 3) := by decide +kernel
theorem dX8_nextQueued_42 : decode cX8_nextQueued 42 = .ok (.aload 6, 2) := by decide +kernel
theorem dX8_nextQueued_44 : decode cX8_nextQueued 44 = .ok (.getfield 66, 3) := by decide +kernel
theorem dX8_nextQueued_47 : decode cX8_nextQueued 47 = .ok (.getfield 70, 3) := by decide +kernel
theorem dX8_nextQueued_50 : decode cX8_nextQueued 50 = .ok (.iload_n 1, 1) := by decide +kernel
theorem dX8_nextQueued_51 : decode cX8_nextQueued 51 = .ok (.if_icmp .ne 35, 3) := by decide +kernel
theorem dX8_nextQueued_54 : decode cX8_nextQueued 54 = .ok (.aload_n 3, 1) := by decide +kernel
theorem dX8_nextQueued_55 : decode cX8_nextQueued 55 = .ok (.ifnull 12, 3) := by decide +kernel
theorem dX8_nextQueued_58 : decode cX8_nextQueued 58 = .ok (.aload 6, 2) := by decide +kernel
theorem dX8_nextQueued_60 : decode cX8_nextQueued 60 = .ok (.aload_n 3, 1) := by decide +kernel
theorem dX8_nextQueued_61 : decode cX8_nextQueued 61 = .ok (.invokevirtual 76, 3) := by decide +kernel
theorem dX8_nextQueued_64 : decode cX8_nextQueued 64 = .ok (.ifCond .eq 22, 3) := by decide +kernel
theorem dX8_nextQueued_67 : decode cX8_nextQueued 67 = .ok (.aload 4, 2) := by decide +kernel
theorem dX8_nextQueued_69 : decode cX8_nextQueued 69 = .ok (.ifnull 13, 3) := by decide +kernel
theorem dX8_nextQueued_72 : decode cX8_nextQueued 72 = .ok (.aload 4, 2) := by decide +kernel
theorem dX8_nextQueued_74 : decode cX8_nextQueued 74 = .ok (.aload 6, 2) := by decide +kernel
theorem dX8_nextQueued_76 : decode cX8_nextQueued 76 = .ok (.invokevirtual 76, 3) := by decide +kernel
theorem dX8_nextQueued_79 : decode cX8_nextQueued 79 = .ok (.ifCond .eq 7, 3) := by decide +kernel
theorem dX8_nextQueued_82 : decode cX8_nextQueued 82 = .ok (.aload 6, 2) := by decide +kernel
theorem dX8_nextQueued_84 : decode cX8_nextQueued 84 = .ok (.astore 4, 2) := by decide +kernel
theorem dX8_nextQueued_86 : decode cX8_nextQueued 86 = .ok (.iinc 5 1, 3) := by decide +kernel
theorem dX8_nextQueued_89 : decode cX8_nextQueued 89 = .ok (.goto (-83), 3) := by decide +kernel
theorem dX8_nextQueued_92 : decode cX8_nextQueued 92 = .ok (.aload 4, 2) := by decide +kernel
theorem dX8_nextQueued_94 : decode cX8_nextQueued 94 = .ok (.areturn, 1) := by decide +kernel
theorem dX8_queuedAt_0 : decode cX8_queuedAt 0 = .ok (.aload_n 0, 1) := by decide +kernel
theorem dX8_queuedAt_1 : decode cX8_queuedAt 1 = .ok (.iload_n 1, 1) := by decide +kernel
theorem dX8_queuedAt_2 : decode cX8_queuedAt 2 = .ok (.iload_n 2, 1) := by decide +kernel
theorem dX8_queuedAt_3 : decode cX8_queuedAt 3 = .ok (.aconst_null, 1) := by decide +kernel
theorem dX8_queuedAt_4 : decode cX8_queuedAt 4 = .ok (.invokevirtual 80, 3) := by decide +kernel
theorem dX8_queuedAt_7 : decode cX8_queuedAt 7 = .ok (.astore 4, 2) := by decide +kernel
theorem dX8_queuedAt_9 : decode cX8_queuedAt 9 = .ok (.iconst 0, 1) := by decide +kernel
theorem dX8_queuedAt_10 : decode cX8_queuedAt 10 = .ok (.istore 5, 2) := by decide +kernel
theorem dX8_queuedAt_12 : decode cX8_queuedAt 12 = .ok (.iload 5, 2) := by decide +kernel
theorem dX8_queuedAt_14 : decode cX8_queuedAt 14 = .ok (.iload_n 3, 1) := by decide +kernel
theorem dX8_queuedAt_15 : decode cX8_queuedAt 15 = .ok (.bipush 60, 2) := by decide +kernel
theorem dX8_queuedAt_17 : decode cX8_queuedAt 17 = .ok (.invokestatic 84, 3) := by decide +kernel
theorem dX8_queuedAt_20 : decode cX8_queuedAt 20 = .ok (.if_icmp .ge 24, 3) := by decide +kernel
theorem dX8_queuedAt_23 : decode cX8_queuedAt 23 = .ok (.aload 4, 2) := by decide +kernel
theorem dX8_queuedAt_25 : decode cX8_queuedAt 25 = .ok (.ifnull 19, 3) := by decide +kernel
theorem dX8_queuedAt_28 : decode cX8_queuedAt 28 = .ok (.aload_n 0, 1) := by decide +kernel
theorem dX8_queuedAt_29 : decode cX8_queuedAt 29 = .ok (.iload_n 1, 1) := by decide +kernel
theorem dX8_queuedAt_30 : decode cX8_queuedAt 30 = .ok (.iload_n 2, 1) := by decide +kernel
theorem dX8_queuedAt_31 : decode cX8_queuedAt 31 = .ok (.aload 4, 2) := by decide +kernel
theorem dX8_queuedAt_33 : decode cX8_queuedAt 33 = .ok (.invokevirtual 80, 3) := by decide +kernel
theorem dX8_queuedAt_36 : decode cX8_queuedAt 36 = .ok (.astore 4, 2) := by decide +kernel
theorem dX8_queuedAt_38 : decode cX8_queuedAt 38 = .ok (.iinc 5 1, 3) := by decide +kernel
theorem dX8_queuedAt_41 : decode cX8_queuedAt 41 = .ok (.goto (-29), 3) := by decide +kernel
theorem dX8_queuedAt_44 : decode cX8_queuedAt 44 = .ok (.aload 4, 2) := by decide +kernel
theorem dX8_queuedAt_46 : decode cX8_queuedAt 46 = .ok (.ifnonnull 7, 3) := by decide +kernel
theorem dX8_queuedAt_49 : decode cX8_queuedAt 49 = .ok (.iconst (-1), 1) := by decide +kernel
theorem dX8_queuedAt_50 : decode cX8_queuedAt 50 = .ok (.goto 8, 3) := by decide +kernel
theorem dX8_queuedAt_53 : decode cX8_queuedAt 53 = .ok (.aload 4, 2) := by decide +kernel
theorem dX8_queuedAt_55 : decode cX8_queuedAt 55 = .ok (.getfield 90, 3) := by decide +kernel
theorem dX8_queuedAt_58 : decode cX8_queuedAt 58 = .ok (.ireturn, 1) := by decide +kernel
theorem dX8_feesOf_0 : decode cX8_feesOf 0 = .ok (.iconst 0, 1) := by decide +kernel
theorem dX8_feesOf_1 : decode cX8_feesOf 1 = .ok (.istore 4, 2) := by decide +kernel
theorem dX8_feesOf_3 : decode cX8_feesOf 3 = .ok (.iconst 0, 1) := by decide +kernel
theorem dX8_feesOf_4 : decode cX8_feesOf 4 = .ok (.istore 5, 2) := by decide +kernel
theorem dX8_feesOf_6 : decode cX8_feesOf 6 = .ok (.iload 5, 2) := by decide +kernel
theorem dX8_feesOf_8 : decode cX8_feesOf 8 = .ok (.aload_n 0, 1) := by decide +kernel
theorem dX8_feesOf_9 : decode cX8_feesOf 9 = .ok (.getfield 12, 3) := by decide +kernel
theorem dX8_feesOf_12 : decode cX8_feesOf 12 = .ok (.invokevirtual 33, 3) := by decide +kernel
theorem dX8_feesOf_15 : decode cX8_feesOf 15 = .ok (.if_icmp .ge 75, 3) := by decide +kernel
theorem dX8_feesOf_18 : decode cX8_feesOf 18 = .ok (.aload_n 0, 1) := by decide +kernel
theorem dX8_feesOf_19 : decode cX8_feesOf 19 = .ok (.getfield 12, 3) := by decide +kernel
theorem dX8_feesOf_22 : decode cX8_feesOf 22 = .ok (.iload 5, 2) := by decide +kernel
theorem dX8_feesOf_24 : decode cX8_feesOf 24 = .ok (.invokevirtual 37, 3) := by decide +kernel
theorem dX8_feesOf_27 : decode cX8_feesOf 27 = .ok (.checkcast 41, 3) := by decide +kernel
theorem dX8_feesOf_30 : decode cX8_feesOf 30 = .ok (.astore 6, 2) := by decide +kernel
theorem dX8_feesOf_32 : decode cX8_feesOf 32 = .ok (.aload 6, 2) := by decide +kernel
theorem dX8_feesOf_34 : decode cX8_feesOf 34 = .ok (.iconst 4, 1) := by decide +kernel
theorem dX8_feesOf_35 : decode cX8_feesOf 35 = .ok (.iload_n 2, 1) := by decide +kernel
theorem dX8_feesOf_36 : decode cX8_feesOf 36 = .ok (.invokevirtual 62, 3) := by decide +kernel
theorem dX8_feesOf_39 : decode cX8_feesOf 39 = .ok (.ifCond .eq 45, 3) := by decide +kernel
theorem dX8_feesOf_42 : decode cX8_feesOf 42 = .ok (.aload 6, 2) := by decide +kernel
theorem dX8_feesOf_44 : decode cX8_feesOf 44 = .ok (.getfield 66, 3) := by decide +kernel
theorem dX8_feesOf_47 : decode cX8_feesOf 47 = .ok (.getfield 70, 3) := by decide +kernel
theorem dX8_feesOf_50 : decode cX8_feesOf 50 = .ok (.iload_n 1, 1) := by decide +kernel
theorem dX8_feesOf_51 : decode cX8_feesOf 51 = .ok (.if_icmp .ne 33, 3) := by decide +kernel
theorem dX8_feesOf_54 : decode cX8_feesOf 54 = .ok (.aload 6, 2) := by decide +kernel
theorem dX8_feesOf_56 : decode cX8_feesOf 56 = .ok (.getfield 93, 3) := by decide +kernel
theorem dX8_feesOf_59 : decode cX8_feesOf 59 = .ok (.iload_n 3, 1) := by decide +kernel
theorem dX8_feesOf_60 : decode cX8_feesOf 60 = .ok (.if_icmp .ne 24, 3) := by decide +kernel
theorem dX8_feesOf_63 : decode cX8_feesOf 63 = .ok (.iload 4, 2) := by decide +kernel
theorem dX8_feesOf_65 : decode cX8_feesOf 65 = .ok (.aload 6, 2) := by decide +kernel
theorem dX8_feesOf_67 : decode cX8_feesOf 67 = .ok (.getfield 66, 3) := by decide +kernel
theorem dX8_feesOf_70 : decode cX8_feesOf 70 = .ok (.getfield 96, 3) := by decide +kernel
theorem dX8_feesOf_73 : decode cX8_feesOf 73 = .ok (.ifCond .eq 7, 3) := by decide +kernel
theorem dX8_feesOf_76 : decode cX8_feesOf 76 = .ok (.iconst 2, 1) := by decide +kernel
theorem dX8_feesOf_77 : decode cX8_feesOf 77 = .ok (.goto 4, 3) := by decide +kernel
theorem dX8_feesOf_80 : decode cX8_feesOf 80 = .ok (.iconst 1, 1) := by decide +kernel
theorem dX8_feesOf_81 : decode cX8_feesOf 81 = .ok (.iadd, 1) := by decide +kernel
theorem dX8_feesOf_82 : decode cX8_feesOf 82 = .ok (.istore 4, 2) := by decide +kernel
theorem dX8_feesOf_84 : decode cX8_feesOf 84 = .ok (.iinc 5 1, 3) := by decide +kernel
theorem dX8_feesOf_87 : decode cX8_feesOf 87 = .ok (.goto (-81), 3) := by decide +kernel
theorem dX8_feesOf_90 : decode cX8_feesOf 90 = .ok (.iload 4, 2) := by decide +kernel
theorem dX8_feesOf_92 : decode cX8_feesOf 92 = .ok (.ireturn, 1) := by decide +kernel
theorem dX9_init_0 : decode cX9_init 0 = .ok (.aload_n 0, 1) := by decide +kernel
theorem dX9_init_1 : decode cX9_init 1 = .ok (.invokespecial 1, 3) := by decide +kernel
theorem dX9_init_4 : decode cX9_init 4 = .ok (.aload_n 0, 1) := by decide +kernel
theorem dX9_init_5 : decode cX9_init 5 = .ok (.iload_n 1, 1) := by decide +kernel
theorem dX9_init_6 : decode cX9_init 6 = .ok (.iconst 0, 1) := by decide +kernel
theorem dX9_init_7 : decode cX9_init 7 = .ok (.invokestatic 7, 3) := by decide +kernel
theorem dX9_init_10 : decode cX9_init 10 = .ok (.newarray .long, 2) := by decide +kernel
theorem dX9_init_12 : decode cX9_init 12 = .ok (.putfield 13, 3) := by decide +kernel
theorem dX9_init_15 : decode cX9_init 15 = .ok (.return_, 1) := by decide +kernel
theorem dX9_at_0 : decode cX9_at 0 = .ok (.iload_n 1, 1) := by decide +kernel
theorem dX9_at_1 : decode cX9_at 1 = .ok (.ifCond .lt 21, 3) := by decide +kernel
theorem dX9_at_4 : decode cX9_at 4 = .ok (.iload_n 1, 1) := by decide +kernel
theorem dX9_at_5 : decode cX9_at 5 = .ok (.aload_n 0, 1) := by decide +kernel
theorem dX9_at_6 : decode cX9_at 6 = .ok (.getfield 13, 3) := by decide +kernel
theorem dX9_at_9 : decode cX9_at 9 = .ok (.arraylength, 1) := by decide +kernel
theorem dX9_at_10 : decode cX9_at 10 = .ok (.if_icmp .ge 12, 3) := by decide +kernel
theorem dX9_at_13 : decode cX9_at 13 = .ok (.aload_n 0, 1) := by decide +kernel
theorem dX9_at_14 : decode cX9_at 14 = .ok (.getfield 13, 3) := by decide +kernel
theorem dX9_at_17 : decode cX9_at 17 = .ok (.iload_n 1, 1) := by decide +kernel
theorem dX9_at_18 : decode cX9_at 18 = .ok (.laload, 1) := by decide +kernel
theorem dX9_at_19 : decode cX9_at 19 = .ok (.goto 4, 3) := by decide +kernel
theorem dX9_at_22 : decode cX9_at 22 = .ok (.lconst 0, 1) := by decide +kernel
theorem dX9_at_23 : decode cX9_at 23 = .ok (.lreturn, 1) := by decide +kernel
theorem dX9_isSet_0 : decode cX9_isSet 0 = .ok (.iload_n 1, 1) := by decide +kernel
theorem dX9_isSet_1 : decode cX9_isSet 1 = .ok (.ifCond .lt 27, 3) := by decide +kernel
theorem dX9_isSet_4 : decode cX9_isSet 4 = .ok (.iload_n 1, 1) := by decide +kernel
theorem dX9_isSet_5 : decode cX9_isSet 5 = .ok (.aload_n 0, 1) := by decide +kernel
theorem dX9_isSet_6 : decode cX9_isSet 6 = .ok (.getfield 13, 3) := by decide +kernel
theorem dX9_isSet_9 : decode cX9_isSet 9 = .ok (.arraylength, 1) := by decide +kernel
theorem dX9_isSet_10 : decode cX9_isSet 10 = .ok (.if_icmp .ge 18, 3) := by decide +kernel
theorem dX9_isSet_13 : decode cX9_isSet 13 = .ok (.aload_n 0, 1) := by decide +kernel
theorem dX9_isSet_14 : decode cX9_isSet 14 = .ok (.getfield 13, 3) := by decide +kernel
theorem dX9_isSet_17 : decode cX9_isSet 17 = .ok (.iload_n 1, 1) := by decide +kernel
theorem dX9_isSet_18 : decode cX9_isSet 18 = .ok (.laload, 1) := by decide +kernel
theorem dX9_isSet_19 : decode cX9_isSet 19 = .ok (.lconst 0, 1) := by decide +kernel
theorem dX9_isSet_20 : decode cX9_isSet 20 = .ok (.lcmp, 1) := by decide +kernel
theorem dX9_isSet_21 : decode cX9_isSet 21 = .ok (.ifCond .eq 7, 3) := by decide +kernel
theorem dX9_isSet_24 : decode cX9_isSet 24 = .ok (.iconst 1, 1) := by decide +kernel
theorem dX9_isSet_25 : decode cX9_isSet 25 = .ok (.goto 4, 3) := by decide +kernel
theorem dX9_isSet_28 : decode cX9_isSet 28 = .ok (.iconst 0, 1) := by decide +kernel
theorem dX9_isSet_29 : decode cX9_isSet 29 = .ok (.ireturn, 1) := by decide +kernel
theorem dX9_put_0 : decode cX9_put 0 = .ok (.iload_n 1, 1) := by decide +kernel
theorem dX9_put_1 : decode cX9_put 1 = .ok (.ifCond .lt 19, 3) := by decide +kernel
theorem dX9_put_4 : decode cX9_put 4 = .ok (.iload_n 1, 1) := by decide +kernel
theorem dX9_put_5 : decode cX9_put 5 = .ok (.aload_n 0, 1) := by decide +kernel
theorem dX9_put_6 : decode cX9_put 6 = .ok (.getfield 13, 3) := by decide +kernel
theorem dX9_put_9 : decode cX9_put 9 = .ok (.arraylength, 1) := by decide +kernel
theorem dX9_put_10 : decode cX9_put 10 = .ok (.if_icmp .ge 10, 3) := by decide +kernel
theorem dX9_put_13 : decode cX9_put 13 = .ok (.aload_n 0, 1) := by decide +kernel
theorem dX9_put_14 : decode cX9_put 14 = .ok (.getfield 13, 3) := by decide +kernel
theorem dX9_put_17 : decode cX9_put 17 = .ok (.iload_n 1, 1) := by decide +kernel
theorem dX9_put_18 : decode cX9_put 18 = .ok (.lload_n 2, 1) := by decide +kernel
theorem dX9_put_19 : decode cX9_put 19 = .ok (.lastore, 1) := by decide +kernel
theorem dX9_put_20 : decode cX9_put 20 = .ok (.return_, 1) := by decide +kernel
theorem dX9_add_0 : decode cX9_add 0 = .ok (.iload_n 1, 1) := by decide +kernel
theorem dX9_add_1 : decode cX9_add 1 = .ok (.ifCond .lt 22, 3) := by decide +kernel
theorem dX9_add_4 : decode cX9_add 4 = .ok (.iload_n 1, 1) := by decide +kernel
theorem dX9_add_5 : decode cX9_add 5 = .ok (.aload_n 0, 1) := by decide +kernel
theorem dX9_add_6 : decode cX9_add 6 = .ok (.getfield 13, 3) := by decide +kernel
theorem dX9_add_9 : decode cX9_add 9 = .ok (.arraylength, 1) := by decide +kernel
theorem dX9_add_10 : decode cX9_add 10 = .ok (.if_icmp .ge 13, 3) := by decide +kernel
theorem dX9_add_13 : decode cX9_add 13 = .ok (.aload_n 0, 1) := by decide +kernel
theorem dX9_add_14 : decode cX9_add 14 = .ok (.getfield 13, 3) := by decide +kernel
theorem dX9_add_17 : decode cX9_add 17 = .ok (.iload_n 1, 1) := by decide +kernel
theorem dX9_add_18 : decode cX9_add 18 = .ok (.dup2, 1) := by decide +kernel
theorem dX9_add_19 : decode cX9_add 19 = .ok (.laload, 1) := by decide +kernel
theorem dX9_add_20 : decode cX9_add 20 = .ok (.lload_n 2, 1) := by decide +kernel
theorem dX9_add_21 : decode cX9_add 21 = .ok (.ladd, 1) := by decide +kernel
theorem dX9_add_22 : decode cX9_add 22 = .ok (.lastore, 1) := by decide +kernel
theorem dX9_add_23 : decode cX9_add 23 = .ok (.return_, 1) := by decide +kernel
theorem dX9_mark_0 : decode cX9_mark 0 = .ok (.aload_n 0, 1) := by decide +kernel
theorem dX9_mark_1 : decode cX9_mark 1 = .ok (.iload_n 1, 1) := by decide +kernel
theorem dX9_mark_2 : decode cX9_mark 2 = .ok (.iload_n 2, 1) := by decide +kernel
theorem dX9_mark_3 : decode cX9_mark 3 = .ok (.ifCond .eq 7, 3) := by decide +kernel
theorem dX9_mark_6 : decode cX9_mark 6 = .ok (.lconst 1, 1) := by decide +kernel
theorem dX9_mark_7 : decode cX9_mark 7 = .ok (.goto 4, 3) := by decide +kernel
theorem dX9_mark_10 : decode cX9_mark 10 = .ok (.lconst 0, 1) := by decide +kernel
theorem dX9_mark_11 : decode cX9_mark 11 = .ok (.invokevirtual 19, 3) := by decide +kernel
theorem dX9_mark_14 : decode cX9_mark 14 = .ok (.return_, 1) := by decide +kernel
theorem dX9_fill_0 : decode cX9_fill 0 = .ok (.iconst 0, 1) := by decide +kernel
theorem dX9_fill_1 : decode cX9_fill 1 = .ok (.istore_n 3, 1) := by decide +kernel
theorem dX9_fill_2 : decode cX9_fill 2 = .ok (.iload_n 3, 1) := by decide +kernel
theorem dX9_fill_3 : decode cX9_fill 3 = .ok (.aload_n 0, 1) := by decide +kernel
theorem dX9_fill_4 : decode cX9_fill 4 = .ok (.getfield 13, 3) := by decide +kernel
theorem dX9_fill_7 : decode cX9_fill 7 = .ok (.arraylength, 1) := by decide +kernel
theorem dX9_fill_8 : decode cX9_fill 8 = .ok (.if_icmp .ge 16, 3) := by decide +kernel
theorem dX9_fill_11 : decode cX9_fill 11 = .ok (.aload_n 0, 1) := by decide +kernel
theorem dX9_fill_12 : decode cX9_fill 12 = .ok (.getfield 13, 3) := by decide +kernel
theorem dX9_fill_15 : decode cX9_fill 15 = .ok (.iload_n 3, 1) := by decide +kernel
theorem dX9_fill_16 : decode cX9_fill 16 = .ok (.lload_n 1, 1) := by decide +kernel
theorem dX9_fill_17 : decode cX9_fill 17 = .ok (.lastore, 1) := by decide +kernel
theorem dX9_fill_18 : decode cX9_fill 18 = .ok (.iinc 3 1, 3) := by decide +kernel
theorem dX9_fill_21 : decode cX9_fill 21 = .ok (.goto (-19), 3) := by decide +kernel
theorem dX9_fill_24 : decode cX9_fill 24 = .ok (.return_, 1) := by decide +kernel
theorem dX10_init_0 : decode cX10_init 0 = .ok (.aload_n 0, 1) := by decide +kernel
theorem dX10_init_1 : decode cX10_init 1 = .ok (.invokespecial 1, 3) := by decide +kernel
theorem dX10_init_4 : decode cX10_init 4 = .ok (.aload_n 0, 1) := by decide +kernel
theorem dX10_init_5 : decode cX10_init 5 = .ok (.iload_n 1, 1) := by decide +kernel
theorem dX10_init_6 : decode cX10_init 6 = .ok (.putfield 7, 3) := by decide +kernel
theorem dX10_init_9 : decode cX10_init 9 = .ok (.aload_n 0, 1) := by decide +kernel
theorem dX10_init_10 : decode cX10_init 10 = .ok (.iload_n 2, 1) := by decide +kernel
theorem dX10_init_11 : decode cX10_init 11 = .ok (.putfield 13, 3) := by decide +kernel
theorem dX10_init_14 : decode cX10_init 14 = .ok (.aload_n 0, 1) := by decide +kernel
theorem dX10_init_15 : decode cX10_init 15 = .ok (.iload_n 3, 1) := by decide +kernel
theorem dX10_init_16 : decode cX10_init 16 = .ok (.putfield 16, 3) := by decide +kernel
theorem dX10_init_19 : decode cX10_init 19 = .ok (.aload_n 0, 1) := by decide +kernel
theorem dX10_init_20 : decode cX10_init 20 = .ok (.iload 4, 2) := by decide +kernel
theorem dX10_init_22 : decode cX10_init 22 = .ok (.putfield 19, 3) := by decide +kernel
theorem dX10_init_25 : decode cX10_init 25 = .ok (.return_, 1) := by decide +kernel
theorem dX10_arrange_0 : decode cX10_arrange 0 = .ok (.aload_n 0, 1) := by decide +kernel
theorem dX10_arrange_1 : decode cX10_arrange 1 = .ok (.iload_n 1, 1) := by decide +kernel
theorem dX10_arrange_2 : decode cX10_arrange 2 = .ok (.putfield 22, 3) := by decide +kernel
theorem dX10_arrange_5 : decode cX10_arrange 5 = .ok (.aload_n 0, 1) := by decide +kernel
theorem dX10_arrange_6 : decode cX10_arrange 6 = .ok (.iload_n 2, 1) := by decide +kernel
theorem dX10_arrange_7 : decode cX10_arrange 7 = .ok (.putfield 25, 3) := by decide +kernel
theorem dX10_arrange_10 : decode cX10_arrange 10 = .ok (.aload_n 0, 1) := by decide +kernel
theorem dX10_arrange_11 : decode cX10_arrange 11 = .ok (.iload_n 3, 1) := by decide +kernel
theorem dX10_arrange_12 : decode cX10_arrange 12 = .ok (.putfield 28, 3) := by decide +kernel
theorem dX10_arrange_15 : decode cX10_arrange 15 = .ok (.aload_n 0, 1) := by decide +kernel
theorem dX10_arrange_16 : decode cX10_arrange 16 = .ok (.iload 4, 2) := by decide +kernel
theorem dX10_arrange_18 : decode cX10_arrange 18 = .ok (.putfield 32, 3) := by decide +kernel
theorem dX10_arrange_21 : decode cX10_arrange 21 = .ok (.aload_n 0, 1) := by decide +kernel
theorem dX10_arrange_22 : decode cX10_arrange 22 = .ok (.iload 5, 2) := by decide +kernel
theorem dX10_arrange_24 : decode cX10_arrange 24 = .ok (.putfield 35, 3) := by decide +kernel
theorem dX10_arrange_27 : decode cX10_arrange 27 = .ok (.return_, 1) := by decide +kernel
theorem dX10_isLike_0 : decode cX10_isLike 0 = .ok (.aload_n 0, 1) := by decide +kernel
theorem dX10_isLike_1 : decode cX10_isLike 1 = .ok (.getfield 7, 3) := by decide +kernel
theorem dX10_isLike_4 : decode cX10_isLike 4 = .ok (.aload_n 1, 1) := by decide +kernel
theorem dX10_isLike_5 : decode cX10_isLike 5 = .ok (.getfield 7, 3) := by decide +kernel
theorem dX10_isLike_8 : decode cX10_isLike 8 = .ok (.if_icmp .ne 95, 3) := by decide +kernel
theorem dX10_isLike_11 : decode cX10_isLike 11 = .ok (.aload_n 0, 1) := by decide +kernel
theorem dX10_isLike_12 : decode cX10_isLike 12 = .ok (.getfield 13, 3) := by decide +kernel
theorem dX10_isLike_15 : decode cX10_isLike 15 = .ok (.aload_n 1, 1) := by decide +kernel
theorem dX10_isLike_16 : decode cX10_isLike 16 = .ok (.getfield 13, 3) := by decide +kernel
theorem dX10_isLike_19 : decode cX10_isLike 19 = .ok (.if_icmp .ne 84, 3) := by decide +kernel
theorem dX10_isLike_22 : decode cX10_isLike 22 = .ok (.aload_n 0, 1) := by decide +kernel
theorem dX10_isLike_23 : decode cX10_isLike 23 = .ok (.getfield 16, 3) := by decide +kernel
theorem dX10_isLike_26 : decode cX10_isLike 26 = .ok (.aload_n 1, 1) := by decide +kernel
theorem dX10_isLike_27 : decode cX10_isLike 27 = .ok (.getfield 16, 3) := by decide +kernel
theorem dX10_isLike_30 : decode cX10_isLike 30 = .ok (.if_icmp .ne 73, 3) := by decide +kernel
theorem dX10_isLike_33 : decode cX10_isLike 33 = .ok (.aload_n 0, 1) := by decide +kernel
theorem dX10_isLike_34 : decode cX10_isLike 34 = .ok (.getfield 19, 3) := by decide +kernel
theorem dX10_isLike_37 : decode cX10_isLike 37 = .ok (.aload_n 1, 1) := by decide +kernel
theorem dX10_isLike_38 : decode cX10_isLike 38 = .ok (.getfield 19, 3) := by decide +kernel
theorem dX10_isLike_41 : decode cX10_isLike 41 = .ok (.if_icmp .ne 62, 3) := by decide +kernel
theorem dX10_isLike_44 : decode cX10_isLike 44 = .ok (.aload_n 0, 1) := by decide +kernel
theorem dX10_isLike_45 : decode cX10_isLike 45 = .ok (.getfield 22, 3) := by decide +kernel
theorem dX10_isLike_48 : decode cX10_isLike 48 = .ok (.aload_n 1, 1) := by decide +kernel
theorem dX10_isLike_49 : decode cX10_isLike 49 = .ok (.getfield 22, 3) := by decide +kernel
theorem dX10_isLike_52 : decode cX10_isLike 52 = .ok (.if_icmp .ne 51, 3) := by decide +kernel
theorem dX10_isLike_55 : decode cX10_isLike 55 = .ok (.aload_n 0, 1) := by decide +kernel
theorem dX10_isLike_56 : decode cX10_isLike 56 = .ok (.getfield 25, 3) := by decide +kernel
theorem dX10_isLike_59 : decode cX10_isLike 59 = .ok (.aload_n 1, 1) := by decide +kernel
theorem dX10_isLike_60 : decode cX10_isLike 60 = .ok (.getfield 25, 3) := by decide +kernel
theorem dX10_isLike_63 : decode cX10_isLike 63 = .ok (.if_icmp .ne 40, 3) := by decide +kernel
theorem dX10_isLike_66 : decode cX10_isLike 66 = .ok (.aload_n 0, 1) := by decide +kernel
theorem dX10_isLike_67 : decode cX10_isLike 67 = .ok (.getfield 28, 3) := by decide +kernel
theorem dX10_isLike_70 : decode cX10_isLike 70 = .ok (.aload_n 1, 1) := by decide +kernel
theorem dX10_isLike_71 : decode cX10_isLike 71 = .ok (.getfield 28, 3) := by decide +kernel
theorem dX10_isLike_74 : decode cX10_isLike 74 = .ok (.if_icmp .ne 29, 3) := by decide +kernel
theorem dX10_isLike_77 : decode cX10_isLike 77 = .ok (.aload_n 0, 1) := by decide +kernel
theorem dX10_isLike_78 : decode cX10_isLike 78 = .ok (.getfield 32, 3) := by decide +kernel
theorem dX10_isLike_81 : decode cX10_isLike 81 = .ok (.aload_n 1, 1) := by decide +kernel
theorem dX10_isLike_82 : decode cX10_isLike 82 = .ok (.getfield 32, 3) := by decide +kernel
theorem dX10_isLike_85 : decode cX10_isLike 85 = .ok (.if_icmp .ne 18, 3) := by decide +kernel
theorem dX10_isLike_88 : decode cX10_isLike 88 = .ok (.aload_n 0, 1) := by decide +kernel
theorem dX10_isLike_89 : decode cX10_isLike 89 = .ok (.getfield 35, 3) := by decide +kernel
theorem dX10_isLike_92 : decode cX10_isLike 92 = .ok (.aload_n 1, 1) := by decide +kernel
theorem dX10_isLike_93 : decode cX10_isLike 93 = .ok (.getfield 35, 3) := by decide +kernel
theorem dX10_isLike_96 : decode cX10_isLike 96 = .ok (.if_icmp .ne 7, 3) := by decide +kernel
theorem dX10_isLike_99 : decode cX10_isLike 99 = .ok (.iconst 1, 1) := by decide +kernel
theorem dX10_isLike_100 : decode cX10_isLike 100 = .ok (.goto 4, 3) := by decide +kernel
theorem dX10_isLike_103 : decode cX10_isLike 103 = .ok (.iconst 0, 1) := by decide +kernel
theorem dX10_isLike_104 : decode cX10_isLike 104 = .ok (.ireturn, 1) := by decide +kernel
theorem dX10_isWayBackOf_0 : decode cX10_isWayBackOf 0 = .ok (.aload_n 0, 1) := by decide +kernel
theorem dX10_isWayBackOf_1 : decode cX10_isWayBackOf 1 = .ok (.getfield 7, 3) := by decide +kernel
theorem dX10_isWayBackOf_4 : decode cX10_isWayBackOf 4 = .ok (.aload_n 1, 1) := by decide +kernel
theorem dX10_isWayBackOf_5 : decode cX10_isWayBackOf 5 = .ok (.getfield 13, 3) := by decide +kernel
theorem dX10_isWayBackOf_8 : decode cX10_isWayBackOf 8 = .ok (.if_icmp .ne 18, 3) := by decide +kernel
theorem dX10_isWayBackOf_11 : decode cX10_isWayBackOf 11 = .ok (.aload_n 0, 1) := by decide +kernel
theorem dX10_isWayBackOf_12 : decode cX10_isWayBackOf 12 = .ok (.getfield 13, 3) := by decide +kernel
theorem dX10_isWayBackOf_15 : decode cX10_isWayBackOf 15 = .ok (.aload_n 1, 1) := by decide +kernel
theorem dX10_isWayBackOf_16 : decode cX10_isWayBackOf 16 = .ok (.getfield 7, 3) := by decide +kernel
theorem dX10_isWayBackOf_19 : decode cX10_isWayBackOf 19 = .ok (.if_icmp .ne 7, 3) := by decide +kernel
theorem dX10_isWayBackOf_22 : decode cX10_isWayBackOf 22 = .ok (.iconst 1, 1) := by decide +kernel
theorem dX10_isWayBackOf_23 : decode cX10_isWayBackOf 23 = .ok (.goto 4, 3) := by decide +kernel
theorem dX10_isWayBackOf_26 : decode cX10_isWayBackOf 26 = .ok (.iconst 0, 1) := by decide +kernel
theorem dX10_isWayBackOf_27 : decode cX10_isWayBackOf 27 = .ok (.ireturn, 1) := by decide +kernel
theorem dX11_init_0 : decode cX11_init 0 = .ok (.aload_n 0, 1) := by decide +kernel
theorem dX11_init_1 : decode cX11_init 1 = .ok (.invokespecial 1, 3) := by decide +kernel
theorem dX11_init_4 : decode cX11_init 4 = .ok (.aload_n 0, 1) := by decide +kernel
theorem dX11_init_5 : decode cX11_init 5 = .ok (.new 7, 3) := by decide +kernel
theorem dX11_init_8 : decode cX11_init 8 = .ok (.dup, 1) := by decide +kernel
theorem dX11_init_9 : decode cX11_init 9 = .ok (.invokespecial 9, 3) := by decide +kernel
theorem dX11_init_12 : decode cX11_init 12 = .ok (.putfield 10, 3) := by decide +kernel
theorem dX11_init_15 : decode cX11_init 15 = .ok (.return_, 1) := by decide +kernel
theorem dX11_fund_0 : decode cX11_fund 0 = .ok (.iload_n 1, 1) := by decide +kernel
theorem dX11_fund_1 : decode cX11_fund 1 = .ok (.bipush 6, 2) := by decide +kernel
theorem dX11_fund_3 : decode cX11_fund 3 = .ok (.invokestatic 16, 3) := by decide +kernel
theorem dX11_fund_6 : decode cX11_fund 6 = .ok (.iload_n 2, 1) := by decide +kernel
theorem dX11_fund_7 : decode cX11_fund 7 = .ok (.iconst 3, 1) := by decide +kernel
theorem dX11_fund_8 : decode cX11_fund 8 = .ok (.invokestatic 16, 3) := by decide +kernel
theorem dX11_fund_11 : decode cX11_fund 11 = .ok (.iload_n 3, 1) := by decide +kernel
theorem dX11_fund_12 : decode cX11_fund 12 = .ok (.iconst 1, 1) := by decide +kernel
theorem dX11_fund_13 : decode cX11_fund 13 = .ok (.ldc 20, 2) := by decide +kernel
theorem dX11_fund_15 : decode cX11_fund 15 = .ok (.invokestatic 21, 3) := by decide +kernel
theorem dX11_fund_18 : decode cX11_fund 18 = .ok (.aload_n 0, 1) := by decide +kernel
theorem dX11_fund_19 : decode cX11_fund 19 = .ok (.getfield 10, 3) := by decide +kernel
theorem dX11_fund_22 : decode cX11_fund 22 = .ok (.getfield 25, 3) := by decide +kernel
theorem dX11_fund_25 : decode cX11_fund 25 = .ok (.iconst (-1), 1) := by decide +kernel
theorem dX11_fund_26 : decode cX11_fund 26 = .ok (.iload_n 1, 1) := by decide +kernel
theorem dX11_fund_27 : decode cX11_fund 27 = .ok (.iload_n 2, 1) := by decide +kernel
theorem dX11_fund_28 : decode cX11_fund 28 = .ok (.iload_n 3, 1) := by decide +kernel
theorem dX11_fund_29 : decode cX11_fund 29 = .ok (.i2l, 1) := by decide +kernel
theorem dX11_fund_30 : decode cX11_fund 30 = .ok (.iconst (-1), 1) := by decide +kernel
theorem dX11_fund_31 : decode cX11_fund 31 = .ok (.invokevirtual 29, 3) := by decide +kernel
theorem dX11_fund_34 : decode cX11_fund 34 = .ok (.aload_n 0, 1) := by decide +kernel
theorem dX11_fund_35 : decode cX11_fund 35 = .ok (.getfield 10, 3) := by decide +kernel
theorem dX11_fund_38 : decode cX11_fund 38 = .ok (.invokevirtual 35, 3) := by decide +kernel
theorem dX11_fund_41 : decode cX11_fund 41 = .ok (.pop, 1) := by decide +kernel
theorem dX11_fund_42 : decode cX11_fund 42 = .ok (.aload_n 0, 1) := by decide +kernel
theorem dX11_fund_43 : decode cX11_fund 43 = .ok (.getfield 10, 3) := by decide +kernel
theorem dX11_fund_46 : decode cX11_fund 46 = .ok (.getfield 25, 3) := by decide +kernel
theorem dX11_fund_49 : decode cX11_fund 49 = .ok (.iload_n 1, 1) := by decide +kernel
theorem dX11_fund_50 : decode cX11_fund 50 = .ok (.iload_n 2, 1) := by decide +kernel
theorem dX11_fund_51 : decode cX11_fund 51 = .ok (.invokevirtual 39, 3) := by decide +kernel
theorem dX11_fund_54 : decode cX11_fund 54 = .ok (.lreturn, 1) := by decide +kernel
theorem dX11_line_0 : decode cX11_line 0 = .ok (.iload_n 1, 1) := by decide +kernel
theorem dX11_line_1 : decode cX11_line 1 = .ok (.bipush 6, 2) := by decide +kernel
theorem dX11_line_3 : decode cX11_line 3 = .ok (.invokestatic 16, 3) := by decide +kernel
theorem dX11_line_6 : decode cX11_line 6 = .ok (.iload_n 2, 1) := by decide +kernel
theorem dX11_line_7 : decode cX11_line 7 = .ok (.iconst 3, 1) := by decide +kernel
theorem dX11_line_8 : decode cX11_line 8 = .ok (.invokestatic 16, 3) := by decide +kernel
theorem dX11_line_11 : decode cX11_line 11 = .ok (.iload_n 3, 1) := by decide +kernel
theorem dX11_line_12 : decode cX11_line 12 = .ok (.iconst 0, 1) := by decide +kernel
theorem dX11_line_13 : decode cX11_line 13 = .ok (.ldc 20, 2) := by decide +kernel
theorem dX11_line_15 : decode cX11_line 15 = .ok (.invokestatic 21, 3) := by decide +kernel
theorem dX11_line_18 : decode cX11_line 18 = .ok (.aload_n 0, 1) := by decide +kernel
theorem dX11_line_19 : decode cX11_line 19 = .ok (.getfield 10, 3) := by decide +kernel
theorem dX11_line_22 : decode cX11_line 22 = .ok (.getfield 25, 3) := by decide +kernel
theorem dX11_line_25 : decode cX11_line 25 = .ok (.iload_n 1, 1) := by decide +kernel
theorem dX11_line_26 : decode cX11_line 26 = .ok (.iload_n 2, 1) := by decide +kernel
theorem dX11_line_27 : decode cX11_line 27 = .ok (.iload_n 3, 1) := by decide +kernel
theorem dX11_line_28 : decode cX11_line 28 = .ok (.invokevirtual 43, 3) := by decide +kernel
theorem dX11_line_31 : decode cX11_line 31 = .ok (.istore 4, 2) := by decide +kernel
theorem dX11_line_33 : decode cX11_line 33 = .ok (.aload_n 0, 1) := by decide +kernel
theorem dX11_line_34 : decode cX11_line 34 = .ok (.getfield 10, 3) := by decide +kernel
end
section
theorem dX11_line_37 : decode cX11_line 37 = .ok (.invokevirtual 35, 3) := by decide +kernel
theorem dX11_line_40 : decode cX11_line 40 = .ok (.pop, 1) := by decide +kernel
theorem dX11_line_41 : decode cX11_line 41 = .ok (.iload 4, 2) := by decide +kernel
theorem dX11_line_43 : decode cX11_line 43 = .ok (.ireturn, 1) := by decide +kernel
theorem dX11_limit_0 : decode cX11_limit 0 = .ok (.iload_n 1, 1) := by decide +kernel
theorem dX11_limit_1 : decode cX11_limit 1 = .ok (.bipush 6, 2) := by decide +kernel
theorem dX11_limit_3 : decode cX11_limit 3 = .ok (.invokestatic 16, 3) := by decide +kernel
theorem dX11_limit_6 : decode cX11_limit 6 = .ok (.iload_n 2, 1) := by decide +kernel
theorem dX11_limit_7 : decode cX11_limit 7 = .ok (.bipush 6, 2) := by decide +kernel
theorem dX11_limit_9 : decode cX11_limit 9 = .ok (.invokestatic 16, 3) := by decide +kernel
theorem dX11_limit_12 : decode cX11_limit 12 = .ok (.iload_n 3, 1) := by decide +kernel
theorem dX11_limit_13 : decode cX11_limit 13 = .ok (.iconst 3, 1) := by decide +kernel
theorem dX11_limit_14 : decode cX11_limit 14 = .ok (.invokestatic 16, 3) := by decide +kernel
theorem dX11_limit_17 : decode cX11_limit 17 = .ok (.iload_n 1, 1) := by decide +kernel
theorem dX11_limit_18 : decode cX11_limit 18 = .ok (.iload_n 2, 1) := by decide +kernel
theorem dX11_limit_19 : decode cX11_limit 19 = .ok (.invokestatic 47, 3) := by decide +kernel
theorem dX11_limit_22 : decode cX11_limit 22 = .ok (.iload 4, 2) := by decide +kernel
theorem dX11_limit_24 : decode cX11_limit 24 = .ok (.iconst (-1), 1) := by decide +kernel
theorem dX11_limit_25 : decode cX11_limit 25 = .ok (.ldc 20, 2) := by decide +kernel
theorem dX11_limit_27 : decode cX11_limit 27 = .ok (.invokestatic 21, 3) := by decide +kernel
theorem dX11_limit_30 : decode cX11_limit 30 = .ok (.aload_n 0, 1) := by decide +kernel
theorem dX11_limit_31 : decode cX11_limit 31 = .ok (.getfield 10, 3) := by decide +kernel
theorem dX11_limit_34 : decode cX11_limit 34 = .ok (.getfield 25, 3) := by decide +kernel
theorem dX11_limit_37 : decode cX11_limit 37 = .ok (.iload_n 1, 1) := by decide +kernel
theorem dX11_limit_38 : decode cX11_limit 38 = .ok (.iload_n 2, 1) := by decide +kernel
theorem dX11_limit_39 : decode cX11_limit 39 = .ok (.iload_n 3, 1) := by decide +kernel
theorem dX11_limit_40 : decode cX11_limit 40 = .ok (.invokestatic 50, 3) := by decide +kernel
theorem dX11_limit_43 : decode cX11_limit 43 = .ok (.iload 4, 2) := by decide +kernel
theorem dX11_limit_45 : decode cX11_limit 45 = .ok (.invokevirtual 53, 3) := by decide +kernel
theorem dX11_limit_48 : decode cX11_limit 48 = .ok (.istore 5, 2) := by decide +kernel
theorem dX11_limit_50 : decode cX11_limit 50 = .ok (.aload_n 0, 1) := by decide +kernel
theorem dX11_limit_51 : decode cX11_limit 51 = .ok (.getfield 10, 3) := by decide +kernel
theorem dX11_limit_54 : decode cX11_limit 54 = .ok (.invokevirtual 35, 3) := by decide +kernel
theorem dX11_limit_57 : decode cX11_limit 57 = .ok (.pop, 1) := by decide +kernel
theorem dX11_limit_58 : decode cX11_limit 58 = .ok (.iload 5, 2) := by decide +kernel
theorem dX11_limit_60 : decode cX11_limit 60 = .ok (.ireturn, 1) := by decide +kernel
theorem dX11_out_0 : decode cX11_out 0 = .ok (.iload_n 1, 1) := by decide +kernel
theorem dX11_out_1 : decode cX11_out 1 = .ok (.bipush 6, 2) := by decide +kernel
theorem dX11_out_3 : decode cX11_out 3 = .ok (.invokestatic 16, 3) := by decide +kernel
theorem dX11_out_6 : decode cX11_out 6 = .ok (.aload_n 0, 1) := by decide +kernel
theorem dX11_out_7 : decode cX11_out 7 = .ok (.getfield 10, 3) := by decide +kernel
theorem dX11_out_10 : decode cX11_out 10 = .ok (.getfield 57, 3) := by decide +kernel
theorem dX11_out_13 : decode cX11_out 13 = .ok (.iload_n 1, 1) := by decide +kernel
theorem dX11_out_14 : decode cX11_out 14 = .ok (.invokevirtual 61, 3) := by decide +kernel
theorem dX11_out_17 : decode cX11_out 17 = .ok (.istore_n 3, 1) := by decide +kernel
theorem dX11_out_18 : decode cX11_out 18 = .ok (.aload_n 0, 1) := by decide +kernel
theorem dX11_out_19 : decode cX11_out 19 = .ok (.getfield 10, 3) := by decide +kernel
theorem dX11_out_22 : decode cX11_out 22 = .ok (.getfield 57, 3) := by decide +kernel
theorem dX11_out_25 : decode cX11_out 25 = .ok (.iload_n 1, 1) := by decide +kernel
theorem dX11_out_26 : decode cX11_out 26 = .ok (.iload_n 2, 1) := by decide +kernel
theorem dX11_out_27 : decode cX11_out 27 = .ok (.invokevirtual 67, 3) := by decide +kernel
theorem dX11_out_30 : decode cX11_out 30 = .ok (.aload_n 0, 1) := by decide +kernel
theorem dX11_out_31 : decode cX11_out 31 = .ok (.getfield 10, 3) := by decide +kernel
theorem dX11_out_34 : decode cX11_out 34 = .ok (.invokevirtual 35, 3) := by decide +kernel
theorem dX11_out_37 : decode cX11_out 37 = .ok (.pop, 1) := by decide +kernel
theorem dX11_out_38 : decode cX11_out 38 = .ok (.iload_n 3, 1) := by decide +kernel
theorem dX11_out_39 : decode cX11_out 39 = .ok (.ireturn, 1) := by decide +kernel
theorem dX11_holiday_0 : decode cX11_holiday 0 = .ok (.iload_n 1, 1) := by decide +kernel
theorem dX11_holiday_1 : decode cX11_holiday 1 = .ok (.iconst 3, 1) := by decide +kernel
theorem dX11_holiday_2 : decode cX11_holiday 2 = .ok (.invokestatic 16, 3) := by decide +kernel
theorem dX11_holiday_5 : decode cX11_holiday 5 = .ok (.iload_n 2, 1) := by decide +kernel
theorem dX11_holiday_6 : decode cX11_holiday 6 = .ok (.iconst 0, 1) := by decide +kernel
theorem dX11_holiday_7 : decode cX11_holiday 7 = .ok (.sipush 999, 3) := by decide +kernel
theorem dX11_holiday_10 : decode cX11_holiday 10 = .ok (.invokestatic 21, 3) := by decide +kernel
theorem dX11_holiday_13 : decode cX11_holiday 13 = .ok (.aload_n 0, 1) := by decide +kernel
theorem dX11_holiday_14 : decode cX11_holiday 14 = .ok (.getfield 10, 3) := by decide +kernel
theorem dX11_holiday_17 : decode cX11_holiday 17 = .ok (.getfield 71, 3) := by decide +kernel
theorem dX11_holiday_20 : decode cX11_holiday 20 = .ok (.iload_n 1, 1) := by decide +kernel
theorem dX11_holiday_21 : decode cX11_holiday 21 = .ok (.iload_n 2, 1) := by decide +kernel
theorem dX11_holiday_22 : decode cX11_holiday 22 = .ok (.iload_n 3, 1) := by decide +kernel
theorem dX11_holiday_23 : decode cX11_holiday 23 = .ok (.invokevirtual 75, 3) := by decide +kernel
theorem dX11_holiday_26 : decode cX11_holiday 26 = .ok (.aload_n 0, 1) := by decide +kernel
theorem dX11_holiday_27 : decode cX11_holiday 27 = .ok (.getfield 10, 3) := by decide +kernel
theorem dX11_holiday_30 : decode cX11_holiday 30 = .ok (.invokevirtual 35, 3) := by decide +kernel
theorem dX11_holiday_33 : decode cX11_holiday 33 = .ok (.pop, 1) := by decide +kernel
theorem dX11_holiday_34 : decode cX11_holiday 34 = .ok (.aload_n 0, 1) := by decide +kernel
theorem dX11_holiday_35 : decode cX11_holiday 35 = .ok (.getfield 10, 3) := by decide +kernel
theorem dX11_holiday_38 : decode cX11_holiday 38 = .ok (.getfield 71, 3) := by decide +kernel
theorem dX11_holiday_41 : decode cX11_holiday 41 = .ok (.iload_n 1, 1) := by decide +kernel
theorem dX11_holiday_42 : decode cX11_holiday 42 = .ok (.iload_n 2, 1) := by decide +kernel
theorem dX11_holiday_43 : decode cX11_holiday 43 = .ok (.invokevirtual 81, 3) := by decide +kernel
theorem dX11_holiday_46 : decode cX11_holiday 46 = .ok (.ireturn, 1) := by decide +kernel
theorem dX11_list_0 : decode cX11_list 0 = .ok (.iload_n 1, 1) := by decide +kernel
theorem dX11_list_1 : decode cX11_list 1 = .ok (.bipush 20, 2) := by decide +kernel
theorem dX11_list_3 : decode cX11_list 3 = .ok (.invokestatic 16, 3) := by decide +kernel
theorem dX11_list_6 : decode cX11_list 6 = .ok (.aload_n 0, 1) := by decide +kernel
theorem dX11_list_7 : decode cX11_list 7 = .ok (.getfield 10, 3) := by decide +kernel
theorem dX11_list_10 : decode cX11_list 10 = .ok (.getfield 85, 3) := by decide +kernel
theorem dX11_list_13 : decode cX11_list 13 = .ok (.iload_n 1, 1) := by decide +kernel
theorem dX11_list_14 : decode cX11_list 14 = .ok (.iload_n 2, 1) := by decide +kernel
theorem dX11_list_15 : decode cX11_list 15 = .ok (.invokevirtual 67, 3) := by decide +kernel
theorem dX11_list_18 : decode cX11_list 18 = .ok (.iload_n 2, 1) := by decide +kernel
theorem dX11_list_19 : decode cX11_list 19 = .ok (.ifCond .eq 14, 3) := by decide +kernel
theorem dX11_list_22 : decode cX11_list 22 = .ok (.aload_n 0, 1) := by decide +kernel
theorem dX11_list_23 : decode cX11_list 23 = .ok (.getfield 10, 3) := by decide +kernel
theorem dX11_list_26 : decode cX11_list 26 = .ok (.iload_n 1, 1) := by decide +kernel
theorem dX11_list_27 : decode cX11_list 27 = .ok (.invokevirtual 88, 3) := by decide +kernel
theorem dX11_list_30 : decode cX11_list 30 = .ok (.goto 4, 3) := by decide +kernel
theorem dX11_list_33 : decode cX11_list 33 = .ok (.iconst 0, 1) := by decide +kernel
theorem dX11_list_34 : decode cX11_list 34 = .ok (.istore_n 3, 1) := by decide +kernel
theorem dX11_list_35 : decode cX11_list 35 = .ok (.aload_n 0, 1) := by decide +kernel
theorem dX11_list_36 : decode cX11_list 36 = .ok (.getfield 10, 3) := by decide +kernel
theorem dX11_list_39 : decode cX11_list 39 = .ok (.invokevirtual 35, 3) := by decide +kernel
theorem dX11_list_42 : decode cX11_list 42 = .ok (.pop, 1) := by decide +kernel
theorem dX11_list_43 : decode cX11_list 43 = .ok (.iload_n 3, 1) := by decide +kernel
theorem dX11_list_44 : decode cX11_list 44 = .ok (.ireturn, 1) := by decide +kernel
theorem dX11_send_0 : decode cX11_send 0 = .ok (.iload_n 1, 1) := by decide +kernel
theorem dX11_send_1 : decode cX11_send 1 = .ok (.bipush 6, 2) := by decide +kernel
theorem dX11_send_3 : decode cX11_send 3 = .ok (.invokestatic 16, 3) := by decide +kernel
theorem dX11_send_6 : decode cX11_send 6 = .ok (.iload_n 2, 1) := by decide +kernel
theorem dX11_send_7 : decode cX11_send 7 = .ok (.bipush 100, 2) := by decide +kernel
theorem dX11_send_9 : decode cX11_send 9 = .ok (.invokestatic 16, 3) := by decide +kernel
theorem dX11_send_12 : decode cX11_send 12 = .ok (.iload_n 3, 1) := by decide +kernel
theorem dX11_send_13 : decode cX11_send 13 = .ok (.bipush 6, 2) := by decide +kernel
theorem dX11_send_15 : decode cX11_send 15 = .ok (.invokestatic 16, 3) := by decide +kernel
theorem dX11_send_18 : decode cX11_send 18 = .ok (.iload 4, 2) := by decide +kernel
theorem dX11_send_20 : decode cX11_send 20 = .ok (.iconst 3, 1) := by decide +kernel
theorem dX11_send_21 : decode cX11_send 21 = .ok (.invokestatic 16, 3) := by decide +kernel
theorem dX11_send_24 : decode cX11_send 24 = .ok (.iload 6, 2) := by decide +kernel
theorem dX11_send_26 : decode cX11_send 26 = .ok (.bipush 20, 2) := by decide +kernel
theorem dX11_send_28 : decode cX11_send 28 = .ok (.invokestatic 16, 3) := by decide +kernel
theorem dX11_send_31 : decode cX11_send 31 = .ok (.iload_n 1, 1) := by decide +kernel
theorem dX11_send_32 : decode cX11_send 32 = .ok (.iload_n 3, 1) := by decide +kernel
theorem dX11_send_33 : decode cX11_send 33 = .ok (.invokestatic 47, 3) := by decide +kernel
theorem dX11_send_36 : decode cX11_send 36 = .ok (.iload 5, 2) := by decide +kernel
theorem dX11_send_38 : decode cX11_send 38 = .ok (.iconst 1, 1) := by decide +kernel
theorem dX11_send_39 : decode cX11_send 39 = .ok (.ldc 20, 2) := by decide +kernel
theorem dX11_send_41 : decode cX11_send 41 = .ok (.invokestatic 21, 3) := by decide +kernel
theorem dX11_send_44 : decode cX11_send 44 = .ok (.iload 7, 2) := by decide +kernel
theorem dX11_send_46 : decode cX11_send 46 = .ok (.iconst 0, 1) := by decide +kernel
theorem dX11_send_47 : decode cX11_send 47 = .ok (.iconst 2, 1) := by decide +kernel
theorem dX11_send_48 : decode cX11_send 48 = .ok (.invokestatic 21, 3) := by decide +kernel
theorem dX11_send_51 : decode cX11_send 51 = .ok (.iload 9, 2) := by decide +kernel
theorem dX11_send_53 : decode cX11_send 53 = .ok (.iconst 0, 1) := by decide +kernel
theorem dX11_send_54 : decode cX11_send 54 = .ok (.sipush 999, 3) := by decide +kernel
theorem dX11_send_57 : decode cX11_send 57 = .ok (.invokestatic 21, 3) := by decide +kernel
theorem dX11_send_60 : decode cX11_send 60 = .ok (.aload_n 0, 1) := by decide +kernel
theorem dX11_send_61 : decode cX11_send 61 = .ok (.getfield 10, 3) := by decide +kernel
theorem dX11_send_64 : decode cX11_send 64 = .ok (.getfield 57, 3) := by decide +kernel
theorem dX11_send_67 : decode cX11_send 67 = .ok (.iload_n 1, 1) := by decide +kernel
theorem dX11_send_68 : decode cX11_send 68 = .ok (.invokevirtual 61, 3) := by decide +kernel
theorem dX11_send_71 : decode cX11_send 71 = .ok (.ifCond .ne 7, 3) := by decide +kernel
theorem dX11_send_74 : decode cX11_send 74 = .ok (.iconst 1, 1) := by decide +kernel
theorem dX11_send_75 : decode cX11_send 75 = .ok (.goto 4, 3) := by decide +kernel
theorem dX11_send_78 : decode cX11_send 78 = .ok (.iconst 0, 1) := by decide +kernel
theorem dX11_send_79 : decode cX11_send 79 = .ok (.invokestatic 92, 3) := by decide +kernel
theorem dX11_send_82 : decode cX11_send 82 = .ok (.new 96, 3) := by decide +kernel
theorem dX11_send_85 : decode cX11_send 85 = .ok (.dup, 1) := by decide +kernel
theorem dX11_send_86 : decode cX11_send 86 = .ok (.iload_n 1, 1) := by decide +kernel
theorem dX11_send_87 : decode cX11_send 87 = .ok (.iload_n 3, 1) := by decide +kernel
theorem dX11_send_88 : decode cX11_send 88 = .ok (.iload 4, 2) := by decide +kernel
theorem dX11_send_90 : decode cX11_send 90 = .ok (.iload 5, 2) := by decide +kernel
theorem dX11_send_92 : decode cX11_send 92 = .ok (.invokespecial 98, 3) := by decide +kernel
theorem dX11_send_95 : decode cX11_send 95 = .ok (.astore 11, 2) := by decide +kernel
theorem dX11_send_97 : decode cX11_send 97 = .ok (.aload 11, 2) := by decide +kernel
theorem dX11_send_99 : decode cX11_send 99 = .ok (.iload 6, 2) := by decide +kernel
theorem dX11_send_101 : decode cX11_send 101 = .ok (.iload 7, 2) := by decide +kernel
theorem dX11_send_103 : decode cX11_send 103 = .ok (.iload 8, 2) := by decide +kernel
theorem dX11_send_105 : decode cX11_send 105 = .ok (.iload 9, 2) := by decide +kernel
theorem dX11_send_107 : decode cX11_send 107 = .ok (.iload 10, 2) := by decide +kernel
theorem dX11_send_109 : decode cX11_send 109 = .ok (.invokevirtual 101, 3) := by decide +kernel
theorem dX11_send_112 : decode cX11_send 112 = .ok (.aload_n 0, 1) := by decide +kernel
theorem dX11_send_113 : decode cX11_send 113 = .ok (.getfield 10, 3) := by decide +kernel
theorem dX11_send_116 : decode cX11_send 116 = .ok (.getfield 105, 3) := by decide +kernel
theorem dX11_send_119 : decode cX11_send 119 = .ok (.iload_n 1, 1) := by decide +kernel
theorem dX11_send_120 : decode cX11_send 120 = .ok (.iload_n 2, 1) := by decide +kernel
theorem dX11_send_121 : decode cX11_send 121 = .ok (.invokevirtual 109, 3) := by decide +kernel
theorem dX11_send_124 : decode cX11_send 124 = .ok (.astore 12, 2) := by decide +kernel
theorem dX11_send_126 : decode cX11_send 126 = .ok (.aload 12, 2) := by decide +kernel
theorem dX11_send_128 : decode cX11_send 128 = .ok (.ifnull 35, 3) := by decide +kernel
theorem dX11_send_131 : decode cX11_send 131 = .ok (.aload 12, 2) := by decide +kernel
theorem dX11_send_133 : decode cX11_send 133 = .ok (.getfield 115, 3) := by decide +kernel
theorem dX11_send_136 : decode cX11_send 136 = .ok (.aload 11, 2) := by decide +kernel
theorem dX11_send_138 : decode cX11_send 138 = .ok (.invokevirtual 121, 3) := by decide +kernel
theorem dX11_send_141 : decode cX11_send 141 = .ok (.invokestatic 92, 3) := by decide +kernel
theorem dX11_send_144 : decode cX11_send 144 = .ok (.aload_n 0, 1) := by decide +kernel
theorem dX11_send_145 : decode cX11_send 145 = .ok (.getfield 10, 3) := by decide +kernel
theorem dX11_send_148 : decode cX11_send 148 = .ok (.dup, 1) := by decide +kernel
theorem dX11_send_149 : decode cX11_send 149 = .ok (.getfield 125, 3) := by decide +kernel
theorem dX11_send_152 : decode cX11_send 152 = .ok (.iconst 1, 1) := by decide +kernel
theorem dX11_send_153 : decode cX11_send 153 = .ok (.iadd, 1) := by decide +kernel
theorem dX11_send_154 : decode cX11_send 154 = .ok (.putfield 125, 3) := by decide +kernel
theorem dX11_send_157 : decode cX11_send 157 = .ok (.aload 12, 2) := by decide +kernel
theorem dX11_send_159 : decode cX11_send 159 = .ok (.getfield 129, 3) := by decide +kernel
theorem dX11_send_162 : decode cX11_send 162 = .ok (.ireturn, 1) := by decide +kernel
theorem dX11_send_163 : decode cX11_send 163 = .ok (.aload_n 0, 1) := by decide +kernel
theorem dX11_send_164 : decode cX11_send 164 = .ok (.getfield 10, 3) := by decide +kernel
theorem dX11_send_167 : decode cX11_send 167 = .ok (.getfield 105, 3) := by decide +kernel
theorem dX11_send_170 : decode cX11_send 170 = .ok (.invokevirtual 132, 3) := by decide +kernel
theorem dX11_send_173 : decode cX11_send 173 = .ok (.ifCond .ne 7, 3) := by decide +kernel
theorem dX11_send_176 : decode cX11_send 176 = .ok (.iconst 1, 1) := by decide +kernel
theorem dX11_send_177 : decode cX11_send 177 = .ok (.goto 4, 3) := by decide +kernel
theorem dX11_send_180 : decode cX11_send 180 = .ok (.iconst 0, 1) := by decide +kernel
theorem dX11_send_181 : decode cX11_send 181 = .ok (.invokestatic 92, 3) := by decide +kernel
theorem dX11_send_184 : decode cX11_send 184 = .ok (.aload_n 0, 1) := by decide +kernel
theorem dX11_send_185 : decode cX11_send 185 = .ok (.getfield 10, 3) := by decide +kernel
theorem dX11_send_188 : decode cX11_send 188 = .ok (.aload 11, 2) := by decide +kernel
theorem dX11_send_190 : decode cX11_send 190 = .ok (.invokevirtual 136, 3) := by decide +kernel
theorem dX11_send_193 : decode cX11_send 193 = .ok (.istore 13, 2) := by decide +kernel
theorem dX11_send_195 : decode cX11_send 195 = .ok (.aload_n 0, 1) := by decide +kernel
theorem dX11_send_196 : decode cX11_send 196 = .ok (.getfield 10, 3) := by decide +kernel
theorem dX11_send_199 : decode cX11_send 199 = .ok (.getfield 105, 3) := by decide +kernel
theorem dX11_send_202 : decode cX11_send 202 = .ok (.iload_n 1, 1) := by decide +kernel
theorem dX11_send_203 : decode cX11_send 203 = .ok (.iload_n 2, 1) := by decide +kernel
theorem dX11_send_204 : decode cX11_send 204 = .ok (.iload 13, 2) := by decide +kernel
theorem dX11_send_206 : decode cX11_send 206 = .ok (.invokevirtual 140, 3) := by decide +kernel
theorem dX11_send_209 : decode cX11_send 209 = .ok (.aload_n 0, 1) := by decide +kernel
theorem dX11_send_210 : decode cX11_send 210 = .ok (.getfield 10, 3) := by decide +kernel
theorem dX11_send_213 : decode cX11_send 213 = .ok (.invokevirtual 35, 3) := by decide +kernel
theorem dX11_send_216 : decode cX11_send 216 = .ok (.pop, 1) := by decide +kernel
theorem dX11_send_217 : decode cX11_send 217 = .ok (.iload 13, 2) := by decide +kernel
theorem dX11_send_219 : decode cX11_send 219 = .ok (.ireturn, 1) := by decide +kernel
theorem dX11_doubles_0 : decode cX11_doubles 0 = .ok (.aload_n 0, 1) := by decide +kernel
theorem dX11_doubles_1 : decode cX11_doubles 1 = .ok (.getfield 10, 3) := by decide +kernel
theorem dX11_doubles_4 : decode cX11_doubles 4 = .ok (.getfield 125, 3) := by decide +kernel
theorem dX11_doubles_7 : decode cX11_doubles 7 = .ok (.ireturn, 1) := by decide +kernel
theorem dX11_join_0 : decode cX11_join 0 = .ok (.aload_n 0, 1) := by decide +kernel
theorem dX11_join_1 : decode cX11_join 1 = .ok (.iload_n 1, 1) := by decide +kernel
theorem dX11_join_2 : decode cX11_join 2 = .ok (.invokevirtual 143, 3) := by decide +kernel
theorem dX11_join_5 : decode cX11_join 5 = .ok (.astore_n 3, 1) := by decide +kernel
theorem dX11_join_6 : decode cX11_join 6 = .ok (.aload_n 0, 1) := by decide +kernel
theorem dX11_join_7 : decode cX11_join 7 = .ok (.iload_n 2, 1) := by decide +kernel
theorem dX11_join_8 : decode cX11_join 8 = .ok (.invokevirtual 143, 3) := by decide +kernel
theorem dX11_join_11 : decode cX11_join 11 = .ok (.astore 4, 2) := by decide +kernel
theorem dX11_join_13 : decode cX11_join 13 = .ok (.aload_n 3, 1) := by decide +kernel
theorem dX11_join_14 : decode cX11_join 14 = .ok (.aload 4, 2) := by decide +kernel
theorem dX11_join_16 : decode cX11_join 16 = .ok (.invokevirtual 147, 3) := by decide +kernel
theorem dX11_join_19 : decode cX11_join 19 = .ok (.invokestatic 92, 3) := by decide +kernel
theorem dX11_join_22 : decode cX11_join 22 = .ok (.aload_n 3, 1) := by decide +kernel
theorem dX11_join_23 : decode cX11_join 23 = .ok (.aload 4, 2) := by decide +kernel
theorem dX11_join_25 : decode cX11_join 25 = .ok (.putfield 151, 3) := by decide +kernel
theorem dX11_join_28 : decode cX11_join 28 = .ok (.aload 4, 2) := by decide +kernel
theorem dX11_join_30 : decode cX11_join 30 = .ok (.aload_n 3, 1) := by decide +kernel
theorem dX11_join_31 : decode cX11_join 31 = .ok (.putfield 151, 3) := by decide +kernel
theorem dX11_join_34 : decode cX11_join 34 = .ok (.aload_n 0, 1) := by decide +kernel
theorem dX11_join_35 : decode cX11_join 35 = .ok (.getfield 10, 3) := by decide +kernel
theorem dX11_join_38 : decode cX11_join 38 = .ok (.invokevirtual 35, 3) := by decide +kernel
theorem dX11_join_41 : decode cX11_join 41 = .ok (.pop, 1) := by decide +kernel
theorem dX11_join_42 : decode cX11_join 42 = .ok (.return_, 1) := by decide +kernel
theorem dX11_withdraw_0 : decode cX11_withdraw 0 = .ok (.aload_n 0, 1) := by decide +kernel
theorem dX11_withdraw_1 : decode cX11_withdraw 1 = .ok (.iload_n 1, 1) := by decide +kernel
theorem dX11_withdraw_2 : decode cX11_withdraw 2 = .ok (.invokevirtual 143, 3) := by decide +kernel
theorem dX11_withdraw_5 : decode cX11_withdraw 5 = .ok (.astore_n 2, 1) := by decide +kernel
theorem dX11_withdraw_6 : decode cX11_withdraw 6 = .ok (.aload_n 2, 1) := by decide +kernel
theorem dX11_withdraw_7 : decode cX11_withdraw 7 = .ok (.invokevirtual 155, 3) := by decide +kernel
theorem dX11_withdraw_10 : decode cX11_withdraw 10 = .ok (.ifCond .ne 7, 3) := by decide +kernel
theorem dX11_withdraw_13 : decode cX11_withdraw 13 = .ok (.iconst 1, 1) := by decide +kernel
theorem dX11_withdraw_14 : decode cX11_withdraw 14 = .ok (.goto 4, 3) := by decide +kernel
theorem dX11_withdraw_17 : decode cX11_withdraw 17 = .ok (.iconst 0, 1) := by decide +kernel
theorem dX11_withdraw_18 : decode cX11_withdraw 18 = .ok (.invokestatic 92, 3) := by decide +kernel
theorem dX11_withdraw_21 : decode cX11_withdraw 21 = .ok (.aload_n 2, 1) := by decide +kernel
theorem dX11_withdraw_22 : decode cX11_withdraw 22 = .ok (.invokevirtual 158, 3) := by decide +kernel
theorem dX11_withdraw_25 : decode cX11_withdraw 25 = .ok (.istore_n 3, 1) := by decide +kernel
theorem dX11_withdraw_26 : decode cX11_withdraw 26 = .ok (.aload_n 0, 1) := by decide +kernel
theorem dX11_withdraw_27 : decode cX11_withdraw 27 = .ok (.getfield 10, 3) := by decide +kernel
theorem dX11_withdraw_30 : decode cX11_withdraw 30 = .ok (.invokevirtual 35, 3) := by decide +kernel
theorem dX11_withdraw_33 : decode cX11_withdraw 33 = .ok (.pop, 1) := by decide +kernel
theorem dX11_withdraw_34 : decode cX11_withdraw 34 = .ok (.iload_n 3, 1) := by decide +kernel
theorem dX11_withdraw_35 : decode cX11_withdraw 35 = .ok (.ireturn, 1) := by decide +kernel
theorem dX11_release_0 : decode cX11_release 0 = .ok (.aload_n 0, 1) := by decide +kernel
theorem dX11_release_1 : decode cX11_release 1 = .ok (.iload_n 1, 1) := by decide +kernel
theorem dX11_release_2 : decode cX11_release 2 = .ok (.invokevirtual 143, 3) := by decide +kernel
theorem dX11_release_5 : decode cX11_release 5 = .ok (.astore_n 3, 1) := by decide +kernel
theorem dX11_release_6 : decode cX11_release 6 = .ok (.iload_n 2, 1) := by decide +kernel
theorem dX11_release_7 : decode cX11_release 7 = .ok (.iconst 4, 1) := by decide +kernel
theorem dX11_release_8 : decode cX11_release 8 = .ok (.invokestatic 16, 3) := by decide +kernel
theorem dX11_release_11 : decode cX11_release 11 = .ok (.aload_n 3, 1) := by decide +kernel
theorem dX11_release_12 : decode cX11_release 12 = .ok (.getfield 161, 3) := by decide +kernel
theorem dX11_release_15 : decode cX11_release 15 = .ok (.iconst 1, 1) := by decide +kernel
theorem dX11_release_16 : decode cX11_release 16 = .ok (.if_icmp .ne 15, 3) := by decide +kernel
theorem dX11_release_19 : decode cX11_release 19 = .ok (.aload_n 3, 1) := by decide +kernel
theorem dX11_release_20 : decode cX11_release 20 = .ok (.getfield 164, 3) := by decide +kernel
theorem dX11_release_23 : decode cX11_release 23 = .ok (.iload_n 2, 1) := by decide +kernel
theorem dX11_release_24 : decode cX11_release 24 = .ok (.if_icmp .eq 7, 3) := by decide +kernel
theorem dX11_release_27 : decode cX11_release 27 = .ok (.iconst 1, 1) := by decide +kernel
theorem dX11_release_28 : decode cX11_release 28 = .ok (.goto 4, 3) := by decide +kernel
theorem dX11_release_31 : decode cX11_release 31 = .ok (.iconst 0, 1) := by decide +kernel
theorem dX11_release_32 : decode cX11_release 32 = .ok (.invokestatic 92, 3) := by decide +kernel
theorem dX11_release_35 : decode cX11_release 35 = .ok (.aload_n 3, 1) := by decide +kernel
theorem dX11_release_36 : decode cX11_release 36 = .ok (.getfield 164, 3) := by decide +kernel
theorem dX11_release_39 : decode cX11_release 39 = .ok (.iconst (-1), 1) := by decide +kernel
theorem dX11_release_40 : decode cX11_release 40 = .ok (.if_icmp .eq 7, 3) := by decide +kernel
theorem dX11_release_43 : decode cX11_release 43 = .ok (.iconst 1, 1) := by decide +kernel
theorem dX11_release_44 : decode cX11_release 44 = .ok (.goto 4, 3) := by decide +kernel
theorem dX11_release_47 : decode cX11_release 47 = .ok (.iconst 0, 1) := by decide +kernel
theorem dX11_release_48 : decode cX11_release 48 = .ok (.istore 4, 2) := by decide +kernel
theorem dX11_release_50 : decode cX11_release 50 = .ok (.aload_n 3, 1) := by decide +kernel
theorem dX11_release_51 : decode cX11_release 51 = .ok (.iload_n 2, 1) := by decide +kernel
theorem dX11_release_52 : decode cX11_release 52 = .ok (.putfield 164, 3) := by decide +kernel
theorem dX11_release_55 : decode cX11_release 55 = .ok (.iload 4, 2) := by decide +kernel
theorem dX11_release_57 : decode cX11_release 57 = .ok (.ifCond .eq 16, 3) := by decide +kernel
theorem dX11_release_60 : decode cX11_release 60 = .ok (.aload_n 3, 1) := by decide +kernel
theorem dX11_release_61 : decode cX11_release 61 = .ok (.iconst 1, 1) := by decide +kernel
theorem dX11_release_62 : decode cX11_release 62 = .ok (.putfield 167, 3) := by decide +kernel
theorem dX11_release_65 : decode cX11_release 65 = .ok (.aload_n 0, 1) := by decide +kernel
theorem dX11_release_66 : decode cX11_release 66 = .ok (.getfield 10, 3) := by decide +kernel
theorem dX11_release_69 : decode cX11_release 69 = .ok (.aload_n 3, 1) := by decide +kernel
theorem dX11_release_70 : decode cX11_release 70 = .ok (.invokevirtual 171, 3) := by decide +kernel
theorem dX11_release_73 : decode cX11_release 73 = .ok (.aload_n 0, 1) := by decide +kernel
theorem dX11_release_74 : decode cX11_release 74 = .ok (.getfield 10, 3) := by decide +kernel
theorem dX11_release_77 : decode cX11_release 77 = .ok (.invokevirtual 35, 3) := by decide +kernel
theorem dX11_release_80 : decode cX11_release 80 = .ok (.pop, 1) := by decide +kernel
theorem dX11_release_81 : decode cX11_release 81 = .ok (.iload 4, 2) := by decide +kernel
theorem dX11_release_83 : decode cX11_release 83 = .ok (.ireturn, 1) := by decide +kernel
theorem dX11_refuse_0 : decode cX11_refuse 0 = .ok (.aload_n 0, 1) := by decide +kernel
theorem dX11_refuse_1 : decode cX11_refuse 1 = .ok (.iload_n 1, 1) := by decide +kernel
theorem dX11_refuse_2 : decode cX11_refuse 2 = .ok (.invokevirtual 143, 3) := by decide +kernel
theorem dX11_refuse_5 : decode cX11_refuse 5 = .ok (.astore_n 2, 1) := by decide +kernel
theorem dX11_refuse_6 : decode cX11_refuse 6 = .ok (.aload_n 2, 1) := by decide +kernel
theorem dX11_refuse_7 : decode cX11_refuse 7 = .ok (.getfield 161, 3) := by decide +kernel
theorem dX11_refuse_10 : decode cX11_refuse 10 = .ok (.iconst 1, 1) := by decide +kernel
theorem dX11_refuse_11 : decode cX11_refuse 11 = .ok (.if_icmp .ne 7, 3) := by decide +kernel
theorem dX11_refuse_14 : decode cX11_refuse 14 = .ok (.iconst 1, 1) := by decide +kernel
theorem dX11_refuse_15 : decode cX11_refuse 15 = .ok (.goto 4, 3) := by decide +kernel
theorem dX11_refuse_18 : decode cX11_refuse 18 = .ok (.iconst 0, 1) := by decide +kernel
theorem dX11_refuse_19 : decode cX11_refuse 19 = .ok (.invokestatic 92, 3) := by decide +kernel
theorem dX11_refuse_22 : decode cX11_refuse 22 = .ok (.aload_n 2, 1) := by decide +kernel
theorem dX11_refuse_23 : decode cX11_refuse 23 = .ok (.invokevirtual 158, 3) := by decide +kernel
theorem dX11_refuse_26 : decode cX11_refuse 26 = .ok (.istore_n 3, 1) := by decide +kernel
theorem dX11_refuse_27 : decode cX11_refuse 27 = .ok (.aload_n 0, 1) := by decide +kernel
theorem dX11_refuse_28 : decode cX11_refuse 28 = .ok (.getfield 10, 3) := by decide +kernel
theorem dX11_refuse_31 : decode cX11_refuse 31 = .ok (.invokevirtual 35, 3) := by decide +kernel
theorem dX11_refuse_34 : decode cX11_refuse 34 = .ok (.pop, 1) := by decide +kernel
theorem dX11_refuse_35 : decode cX11_refuse 35 = .ok (.iload_n 3, 1) := by decide +kernel
theorem dX11_refuse_36 : decode cX11_refuse 36 = .ok (.ireturn, 1) := by decide +kernel
theorem dX11_offset_0 : decode cX11_offset 0 = .ok (.iload_n 1, 1) := by decide +kernel
theorem dX11_offset_1 : decode cX11_offset 1 = .ok (.iconst 3, 1) := by decide +kernel
theorem dX11_offset_2 : decode cX11_offset 2 = .ok (.invokestatic 16, 3) := by decide +kernel
theorem dX11_offset_5 : decode cX11_offset 5 = .ok (.aload_n 0, 1) := by decide +kernel
theorem dX11_offset_6 : decode cX11_offset 6 = .ok (.getfield 10, 3) := by decide +kernel
theorem dX11_offset_9 : decode cX11_offset 9 = .ok (.iload_n 1, 1) := by decide +kernel
theorem dX11_offset_10 : decode cX11_offset 10 = .ok (.iconst 2, 1) := by decide +kernel
theorem dX11_offset_11 : decode cX11_offset 11 = .ok (.invokevirtual 175, 3) := by decide +kernel
theorem dX11_offset_14 : decode cX11_offset 14 = .ok (.istore_n 2, 1) := by decide +kernel
theorem dX11_offset_15 : decode cX11_offset 15 = .ok (.aload_n 0, 1) := by decide +kernel
theorem dX11_offset_16 : decode cX11_offset 16 = .ok (.getfield 10, 3) := by decide +kernel
theorem dX11_offset_19 : decode cX11_offset 19 = .ok (.invokevirtual 35, 3) := by decide +kernel
theorem dX11_offset_22 : decode cX11_offset 22 = .ok (.pop, 1) := by decide +kernel
theorem dX11_offset_23 : decode cX11_offset 23 = .ok (.iload_n 2, 1) := by decide +kernel
theorem dX11_offset_24 : decode cX11_offset 24 = .ok (.ireturn, 1) := by decide +kernel
theorem dX11_recall_0 : decode cX11_recall 0 = .ok (.aload_n 0, 1) := by decide +kernel
theorem dX11_recall_1 : decode cX11_recall 1 = .ok (.iload_n 1, 1) := by decide +kernel
theorem dX11_recall_2 : decode cX11_recall 2 = .ok (.invokevirtual 143, 3) := by decide +kernel
theorem dX11_recall_5 : decode cX11_recall 5 = .ok (.astore_n 2, 1) := by decide +kernel
theorem dX11_recall_6 : decode cX11_recall 6 = .ok (.aload_n 0, 1) := by decide +kernel
theorem dX11_recall_7 : decode cX11_recall 7 = .ok (.getfield 10, 3) := by decide +kernel
theorem dX11_recall_10 : decode cX11_recall 10 = .ok (.getfield 71, 3) := by decide +kernel
theorem dX11_recall_13 : decode cX11_recall 13 = .ok (.getfield 178, 3) := by decide +kernel
theorem dX11_recall_16 : decode cX11_recall 16 = .ok (.istore_n 3, 1) := by decide +kernel
theorem dX11_recall_17 : decode cX11_recall 17 = .ok (.aload_n 2, 1) := by decide +kernel
theorem dX11_recall_18 : decode cX11_recall 18 = .ok (.getfield 161, 3) := by decide +kernel
theorem dX11_recall_21 : decode cX11_recall 21 = .ok (.iconst 4, 1) := by decide +kernel
theorem dX11_recall_22 : decode cX11_recall 22 = .ok (.if_icmp .ne 7, 3) := by decide +kernel
theorem dX11_recall_25 : decode cX11_recall 25 = .ok (.iconst 1, 1) := by decide +kernel
theorem dX11_recall_26 : decode cX11_recall 26 = .ok (.goto 4, 3) := by decide +kernel
theorem dX11_recall_29 : decode cX11_recall 29 = .ok (.iconst 0, 1) := by decide +kernel
theorem dX11_recall_30 : decode cX11_recall 30 = .ok (.invokestatic 92, 3) := by decide +kernel
theorem dX11_recall_33 : decode cX11_recall 33 = .ok (.iload_n 3, 1) := by decide +kernel
theorem dX11_recall_34 : decode cX11_recall 34 = .ok (.aload_n 2, 1) := by decide +kernel
theorem dX11_recall_35 : decode cX11_recall 35 = .ok (.getfield 181, 3) := by decide +kernel
theorem dX11_recall_38 : decode cX11_recall 38 = .ok (.isub, 1) := by decide +kernel
theorem dX11_recall_39 : decode cX11_recall 39 = .ok (.iconst 3, 1) := by decide +kernel
theorem dX11_recall_40 : decode cX11_recall 40 = .ok (.if_icmp .gt 7, 3) := by decide +kernel
theorem dX11_recall_43 : decode cX11_recall 43 = .ok (.iconst 1, 1) := by decide +kernel
theorem dX11_recall_44 : decode cX11_recall 44 = .ok (.goto 4, 3) := by decide +kernel
theorem dX11_recall_47 : decode cX11_recall 47 = .ok (.iconst 0, 1) := by decide +kernel
theorem dX11_recall_48 : decode cX11_recall 48 = .ok (.invokestatic 92, 3) := by decide +kernel
theorem dX11_recall_51 : decode cX11_recall 51 = .ok (.aload_n 2, 1) := by decide +kernel
theorem dX11_recall_52 : decode cX11_recall 52 = .ok (.getfield 184, 3) := by decide +kernel
theorem dX11_recall_55 : decode cX11_recall 55 = .ok (.iconst (-1), 1) := by decide +kernel
theorem dX11_recall_56 : decode cX11_recall 56 = .ok (.if_icmp .ne 7, 3) := by decide +kernel
theorem dX11_recall_59 : decode cX11_recall 59 = .ok (.iconst 1, 1) := by decide +kernel
theorem dX11_recall_60 : decode cX11_recall 60 = .ok (.goto 4, 3) := by decide +kernel
theorem dX11_recall_63 : decode cX11_recall 63 = .ok (.iconst 0, 1) := by decide +kernel
theorem dX11_recall_64 : decode cX11_recall 64 = .ok (.invokestatic 92, 3) := by decide +kernel
theorem dX11_recall_67 : decode cX11_recall 67 = .ok (.aload_n 2, 1) := by decide +kernel
theorem dX11_recall_68 : decode cX11_recall 68 = .ok (.iload_n 3, 1) := by decide +kernel
theorem dX11_recall_69 : decode cX11_recall 69 = .ok (.iconst 2, 1) := by decide +kernel
theorem dX11_recall_70 : decode cX11_recall 70 = .ok (.iadd, 1) := by decide +kernel
theorem dX11_recall_71 : decode cX11_recall 71 = .ok (.putfield 184, 3) := by decide +kernel
theorem dX11_recall_74 : decode cX11_recall 74 = .ok (.aload_n 0, 1) := by decide +kernel
theorem dX11_recall_75 : decode cX11_recall 75 = .ok (.getfield 10, 3) := by decide +kernel
theorem dX11_recall_78 : decode cX11_recall 78 = .ok (.invokevirtual 35, 3) := by decide +kernel
theorem dX11_recall_81 : decode cX11_recall 81 = .ok (.pop, 1) := by decide +kernel
theorem dX11_recall_82 : decode cX11_recall 82 = .ok (.aload_n 2, 1) := by decide +kernel
theorem dX11_recall_83 : decode cX11_recall 83 = .ok (.getfield 184, 3) := by decide +kernel
theorem dX11_recall_86 : decode cX11_recall 86 = .ok (.ireturn, 1) := by decide +kernel
theorem dX11_answer_0 : decode cX11_answer 0 = .ok (.aload_n 0, 1) := by decide +kernel
theorem dX11_answer_1 : decode cX11_answer 1 = .ok (.iload_n 1, 1) := by decide +kernel
theorem dX11_answer_2 : decode cX11_answer 2 = .ok (.invokevirtual 143, 3) := by decide +kernel
theorem dX11_answer_5 : decode cX11_answer 5 = .ok (.astore_n 3, 1) := by decide +kernel
theorem dX11_answer_6 : decode cX11_answer 6 = .ok (.aload_n 3, 1) := by decide +kernel
theorem dX11_answer_7 : decode cX11_answer 7 = .ok (.getfield 184, 3) := by decide +kernel
theorem dX11_answer_10 : decode cX11_answer 10 = .ok (.iconst (-1), 1) := by decide +kernel
theorem dX11_answer_11 : decode cX11_answer 11 = .ok (.if_icmp .eq 14, 3) := by decide +kernel
theorem dX11_answer_14 : decode cX11_answer 14 = .ok (.aload_n 3, 1) := by decide +kernel
theorem dX11_answer_15 : decode cX11_answer 15 = .ok (.getfield 187, 3) := by decide +kernel
theorem dX11_answer_18 : decode cX11_answer 18 = .ok (.ifCond .ne 7, 3) := by decide +kernel
theorem dX11_answer_21 : decode cX11_answer 21 = .ok (.iconst 1, 1) := by decide +kernel
theorem dX11_answer_22 : decode cX11_answer 22 = .ok (.goto 4, 3) := by decide +kernel
theorem dX11_answer_25 : decode cX11_answer 25 = .ok (.iconst 0, 1) := by decide +kernel
theorem dX11_answer_26 : decode cX11_answer 26 = .ok (.invokestatic 92, 3) := by decide +kernel
theorem dX11_answer_29 : decode cX11_answer 29 = .ok (.aload_n 0, 1) := by decide +kernel
theorem dX11_answer_30 : decode cX11_answer 30 = .ok (.getfield 10, 3) := by decide +kernel
theorem dX11_answer_33 : decode cX11_answer 33 = .ok (.getfield 71, 3) := by decide +kernel
theorem dX11_answer_36 : decode cX11_answer 36 = .ok (.getfield 178, 3) := by decide +kernel
theorem dX11_answer_39 : decode cX11_answer 39 = .ok (.aload_n 3, 1) := by decide +kernel
theorem dX11_answer_40 : decode cX11_answer 40 = .ok (.getfield 184, 3) := by decide +kernel
theorem dX11_answer_43 : decode cX11_answer 43 = .ok (.if_icmp .gt 7, 3) := by decide +kernel
theorem dX11_answer_46 : decode cX11_answer 46 = .ok (.iconst 1, 1) := by decide +kernel
theorem dX11_answer_47 : decode cX11_answer 47 = .ok (.goto 4, 3) := by decide +kernel
theorem dX11_answer_50 : decode cX11_answer 50 = .ok (.iconst 0, 1) := by decide +kernel
theorem dX11_answer_51 : decode cX11_answer 51 = .ok (.invokestatic 92, 3) := by decide +kernel
theorem dX11_answer_54 : decode cX11_answer 54 = .ok (.iload_n 2, 1) := by decide +kernel
theorem dX11_answer_55 : decode cX11_answer 55 = .ok (.ifCond .eq 16, 3) := by decide +kernel
theorem dX11_answer_58 : decode cX11_answer 58 = .ok (.aload_n 0, 1) := by decide +kernel
theorem dX11_answer_59 : decode cX11_answer 59 = .ok (.getfield 10, 3) := by decide +kernel
theorem dX11_answer_62 : decode cX11_answer 62 = .ok (.getfield 105, 3) := by decide +kernel
theorem dX11_answer_65 : decode cX11_answer 65 = .ok (.invokevirtual 132, 3) := by decide +kernel
theorem dX11_answer_68 : decode cX11_answer 68 = .ok (.ifCond .ne 7, 3) := by decide +kernel
theorem dX11_answer_71 : decode cX11_answer 71 = .ok (.iconst 1, 1) := by decide +kernel
theorem dX11_answer_72 : decode cX11_answer 72 = .ok (.goto 4, 3) := by decide +kernel
theorem dX11_answer_75 : decode cX11_answer 75 = .ok (.iconst 0, 1) := by decide +kernel
theorem dX11_answer_76 : decode cX11_answer 76 = .ok (.invokestatic 92, 3) := by decide +kernel
theorem dX11_answer_79 : decode cX11_answer 79 = .ok (.aload_n 3, 1) := by decide +kernel
theorem dX11_answer_80 : decode cX11_answer 80 = .ok (.iconst 1, 1) := by decide +kernel
theorem dX11_answer_81 : decode cX11_answer 81 = .ok (.putfield 187, 3) := by decide +kernel
theorem dX11_answer_84 : decode cX11_answer 84 = .ok (.iload_n 2, 1) := by decide +kernel
theorem dX11_answer_85 : decode cX11_answer 85 = .ok (.ifCond .eq 24, 3) := by decide +kernel
theorem dX11_answer_88 : decode cX11_answer 88 = .ok (.aload_n 0, 1) := by decide +kernel
theorem dX11_answer_89 : decode cX11_answer 89 = .ok (.getfield 10, 3) := by decide +kernel
theorem dX11_answer_92 : decode cX11_answer 92 = .ok (.aload_n 0, 1) := by decide +kernel
theorem dX11_answer_93 : decode cX11_answer 93 = .ok (.getfield 10, 3) := by decide +kernel
theorem dX11_answer_96 : decode cX11_answer 96 = .ok (.aload_n 3, 1) := by decide +kernel
theorem dX11_answer_97 : decode cX11_answer 97 = .ok (.getfield 115, 3) := by decide +kernel
theorem dX11_answer_100 : decode cX11_answer 100 = .ok (.invokevirtual 190, 3) := by decide +kernel
theorem dX11_answer_103 : decode cX11_answer 103 = .ok (.invokevirtual 136, 3) := by decide +kernel
theorem dX11_answer_106 : decode cX11_answer 106 = .ok (.goto 4, 3) := by decide +kernel
theorem dX11_answer_109 : decode cX11_answer 109 = .ok (.iconst (-1), 1) := by decide +kernel
theorem dX11_answer_110 : decode cX11_answer 110 = .ok (.istore 4, 2) := by decide +kernel
theorem dX11_answer_112 : decode cX11_answer 112 = .ok (.aload_n 0, 1) := by decide +kernel
theorem dX11_answer_113 : decode cX11_answer 113 = .ok (.getfield 10, 3) := by decide +kernel
theorem dX11_answer_116 : decode cX11_answer 116 = .ok (.invokevirtual 35, 3) := by decide +kernel
theorem dX11_answer_119 : decode cX11_answer 119 = .ok (.pop, 1) := by decide +kernel
theorem dX11_answer_120 : decode cX11_answer 120 = .ok (.iload 4, 2) := by decide +kernel
theorem dX11_answer_122 : decode cX11_answer 122 = .ok (.ireturn, 1) := by decide +kernel
theorem dX11_endDay_0 : decode cX11_endDay 0 = .ok (.aload_n 0, 1) := by decide +kernel
theorem dX11_endDay_1 : decode cX11_endDay 1 = .ok (.getfield 10, 3) := by decide +kernel
theorem dX11_endDay_4 : decode cX11_endDay 4 = .ok (.getfield 71, 3) := by decide +kernel
theorem dX11_endDay_7 : decode cX11_endDay 7 = .ok (.getfield 178, 3) := by decide +kernel
theorem dX11_endDay_10 : decode cX11_endDay 10 = .ok (.sipush 998, 3) := by decide +kernel
theorem dX11_endDay_13 : decode cX11_endDay 13 = .ok (.if_icmp .ge 7, 3) := by decide +kernel
theorem dX11_endDay_16 : decode cX11_endDay 16 = .ok (.iconst 1, 1) := by decide +kernel
theorem dX11_endDay_17 : decode cX11_endDay 17 = .ok (.goto 4, 3) := by decide +kernel
theorem dX11_endDay_20 : decode cX11_endDay 20 = .ok (.iconst 0, 1) := by decide +kernel
theorem dX11_endDay_21 : decode cX11_endDay 21 = .ok (.invokestatic 92, 3) := by decide +kernel
theorem dX11_endDay_24 : decode cX11_endDay 24 = .ok (.aload_n 0, 1) := by decide +kernel
theorem dX11_endDay_25 : decode cX11_endDay 25 = .ok (.getfield 10, 3) := by decide +kernel
theorem dX11_endDay_28 : decode cX11_endDay 28 = .ok (.invokevirtual 194, 3) := by decide +kernel
theorem dX11_endDay_31 : decode cX11_endDay 31 = .ok (.istore_n 1, 1) := by decide +kernel
theorem dX11_endDay_32 : decode cX11_endDay 32 = .ok (.iload_n 1, 1) := by decide +kernel
theorem dX11_endDay_33 : decode cX11_endDay 33 = .ok (.aload_n 0, 1) := by decide +kernel
theorem dX11_endDay_34 : decode cX11_endDay 34 = .ok (.getfield 10, 3) := by decide +kernel
theorem dX11_endDay_37 : decode cX11_endDay 37 = .ok (.invokevirtual 35, 3) := by decide +kernel
theorem dX11_endDay_40 : decode cX11_endDay 40 = .ok (.iadd, 1) := by decide +kernel
theorem dX11_endDay_41 : decode cX11_endDay 41 = .ok (.ireturn, 1) := by decide +kernel
theorem dX11_today_0 : decode cX11_today 0 = .ok (.aload_n 0, 1) := by decide +kernel
theorem dX11_today_1 : decode cX11_today 1 = .ok (.getfield 10, 3) := by decide +kernel
theorem dX11_today_4 : decode cX11_today 4 = .ok (.getfield 71, 3) := by decide +kernel
theorem dX11_today_7 : decode cX11_today 7 = .ok (.getfield 178, 3) := by decide +kernel
theorem dX11_today_10 : decode cX11_today 10 = .ok (.ireturn, 1) := by decide +kernel
theorem dX11_account_0 : decode cX11_account 0 = .ok (.iload_n 1, 1) := by decide +kernel
theorem dX11_account_1 : decode cX11_account 1 = .ok (.bipush 7, 2) := by decide +kernel
theorem dX11_account_3 : decode cX11_account 3 = .ok (.invokestatic 16, 3) := by decide +kernel
theorem dX11_account_6 : decode cX11_account 6 = .ok (.iload_n 2, 1) := by decide +kernel
theorem dX11_account_7 : decode cX11_account 7 = .ok (.iconst 3, 1) := by decide +kernel
theorem dX11_account_8 : decode cX11_account 8 = .ok (.invokestatic 16, 3) := by decide +kernel
theorem dX11_account_11 : decode cX11_account 11 = .ok (.aload_n 0, 1) := by decide +kernel
theorem dX11_account_12 : decode cX11_account 12 = .ok (.getfield 10, 3) := by decide +kernel
theorem dX11_account_15 : decode cX11_account 15 = .ok (.getfield 25, 3) := by decide +kernel
theorem dX11_account_18 : decode cX11_account 18 = .ok (.iload_n 1, 1) := by decide +kernel
theorem dX11_account_19 : decode cX11_account 19 = .ok (.iload_n 2, 1) := by decide +kernel
theorem dX11_account_20 : decode cX11_account 20 = .ok (.invokevirtual 39, 3) := by decide +kernel
theorem dX11_account_23 : decode cX11_account 23 = .ok (.lreturn, 1) := by decide +kernel
theorem dX11_accountAnew_0 : decode cX11_accountAnew 0 = .ok (.iload_n 1, 1) := by decide +kernel
theorem dX11_accountAnew_1 : decode cX11_accountAnew 1 = .ok (.bipush 7, 2) := by decide +kernel
theorem dX11_accountAnew_3 : decode cX11_accountAnew 3 = .ok (.invokestatic 16, 3) := by decide +kernel
theorem dX11_accountAnew_6 : decode cX11_accountAnew 6 = .ok (.iload_n 2, 1) := by decide +kernel
theorem dX11_accountAnew_7 : decode cX11_accountAnew 7 = .ok (.iconst 3, 1) := by decide +kernel
theorem dX11_accountAnew_8 : decode cX11_accountAnew 8 = .ok (.invokestatic 16, 3) := by decide +kernel
theorem dX11_accountAnew_11 : decode cX11_accountAnew 11 = .ok (.aload_n 0, 1) := by decide +kernel
theorem dX11_accountAnew_12 : decode cX11_accountAnew 12 = .ok (.getfield 10, 3) := by decide +kernel
theorem dX11_accountAnew_15 : decode cX11_accountAnew 15 = .ok (.getfield 25, 3) := by decide +kernel
theorem dX11_accountAnew_18 : decode cX11_accountAnew 18 = .ok (.getfield 197, 3) := by decide +kernel
theorem dX11_accountAnew_21 : decode cX11_accountAnew 21 = .ok (.iload_n 1, 1) := by decide +kernel
theorem dX11_accountAnew_22 : decode cX11_accountAnew 22 = .ok (.iload_n 2, 1) := by decide +kernel
theorem dX11_accountAnew_23 : decode cX11_accountAnew 23 = .ok (.invokevirtual 201, 3) := by decide +kernel
theorem dX11_accountAnew_26 : decode cX11_accountAnew 26 = .ok (.lreturn, 1) := by decide +kernel
theorem dX11_paid_0 : decode cX11_paid 0 = .ok (.iload_n 1, 1) := by decide +kernel
theorem dX11_paid_1 : decode cX11_paid 1 = .ok (.bipush 6, 2) := by decide +kernel
theorem dX11_paid_3 : decode cX11_paid 3 = .ok (.invokestatic 16, 3) := by decide +kernel
theorem dX11_paid_6 : decode cX11_paid 6 = .ok (.iload_n 2, 1) := by decide +kernel
theorem dX11_paid_7 : decode cX11_paid 7 = .ok (.bipush 6, 2) := by decide +kernel
theorem dX11_paid_9 : decode cX11_paid 9 = .ok (.invokestatic 16, 3) := by decide +kernel
theorem dX11_paid_12 : decode cX11_paid 12 = .ok (.iload_n 3, 1) := by decide +kernel
theorem dX11_paid_13 : decode cX11_paid 13 = .ok (.iconst 3, 1) := by decide +kernel
theorem dX11_paid_14 : decode cX11_paid 14 = .ok (.invokestatic 16, 3) := by decide +kernel
theorem dX11_paid_17 : decode cX11_paid 17 = .ok (.aload_n 0, 1) := by decide +kernel
theorem dX11_paid_18 : decode cX11_paid 18 = .ok (.getfield 10, 3) := by decide +kernel
theorem dX11_paid_21 : decode cX11_paid 21 = .ok (.getfield 25, 3) := by decide +kernel
theorem dX11_paid_24 : decode cX11_paid 24 = .ok (.iload_n 1, 1) := by decide +kernel
theorem dX11_paid_25 : decode cX11_paid 25 = .ok (.iload_n 2, 1) := by decide +kernel
theorem dX11_paid_26 : decode cX11_paid 26 = .ok (.iload_n 3, 1) := by decide +kernel
theorem dX11_paid_27 : decode cX11_paid 27 = .ok (.invokestatic 50, 3) := by decide +kernel
theorem dX11_paid_30 : decode cX11_paid 30 = .ok (.invokevirtual 206, 3) := by decide +kernel
theorem dX11_paid_33 : decode cX11_paid 33 = .ok (.lreturn, 1) := by decide +kernel
theorem dX11_payments_0 : decode cX11_payments 0 = .ok (.aload_n 0, 1) := by decide +kernel
theorem dX11_payments_1 : decode cX11_payments 1 = .ok (.getfield 10, 3) := by decide +kernel
theorem dX11_payments_4 : decode cX11_payments 4 = .ok (.getfield 105, 3) := by decide +kernel
theorem dX11_payments_7 : decode cX11_payments 7 = .ok (.invokevirtual 210, 3) := by decide +kernel
theorem dX11_payments_10 : decode cX11_payments 10 = .ok (.ireturn, 1) := by decide +kernel
theorem dX11_stateOf_0 : decode cX11_stateOf 0 = .ok (.aload_n 0, 1) := by decide +kernel
theorem dX11_stateOf_1 : decode cX11_stateOf 1 = .ok (.iload_n 1, 1) := by decide +kernel
theorem dX11_stateOf_2 : decode cX11_stateOf 2 = .ok (.invokevirtual 143, 3) := by decide +kernel
theorem dX11_stateOf_5 : decode cX11_stateOf 5 = .ok (.getfield 161, 3) := by decide +kernel
theorem dX11_stateOf_8 : decode cX11_stateOf 8 = .ok (.ireturn, 1) := by decide +kernel
theorem dX11_queueAt_0 : decode cX11_queueAt 0 = .ok (.iload_n 1, 1) := by decide +kernel
theorem dX11_queueAt_1 : decode cX11_queueAt 1 = .ok (.bipush 6, 2) := by decide +kernel
theorem dX11_queueAt_3 : decode cX11_queueAt 3 = .ok (.invokestatic 16, 3) := by decide +kernel
theorem dX11_queueAt_6 : decode cX11_queueAt 6 = .ok (.iload_n 2, 1) := by decide +kernel
theorem dX11_queueAt_7 : decode cX11_queueAt 7 = .ok (.iconst 3, 1) := by decide +kernel
theorem dX11_queueAt_8 : decode cX11_queueAt 8 = .ok (.invokestatic 16, 3) := by decide +kernel
theorem dX11_queueAt_11 : decode cX11_queueAt 11 = .ok (.iload_n 3, 1) := by decide +kernel
theorem dX11_queueAt_12 : decode cX11_queueAt 12 = .ok (.ifCond .ge 13, 3) := by decide +kernel
theorem dX11_queueAt_15 : decode cX11_queueAt 15 = .ok (.new 213, 3) := by decide +kernel
theorem dX11_queueAt_18 : decode cX11_queueAt 18 = .ok (.dup, 1) := by decide +kernel
theorem dX11_queueAt_19 : decode cX11_queueAt 19 = .ok (.ldc 215, 2) := by decide +kernel
theorem dX11_queueAt_21 : decode cX11_queueAt 21 = .ok (.invokespecial 217, 3) := by decide +kernel
theorem dX11_queueAt_24 : decode cX11_queueAt 24 = .ok (.athrow, 1) := by decide +kernel
theorem dX11_queueAt_25 : decode cX11_queueAt 25 = .ok (.aload_n 0, 1) := by decide +kernel
theorem dX11_queueAt_26 : decode cX11_queueAt 26 = .ok (.getfield 10, 3) := by decide +kernel
theorem dX11_queueAt_29 : decode cX11_queueAt 29 = .ok (.getfield 105, 3) := by decide +kernel
theorem dX11_queueAt_32 : decode cX11_queueAt 32 = .ok (.iload_n 1, 1) := by decide +kernel
theorem dX11_queueAt_33 : decode cX11_queueAt 33 = .ok (.iload_n 2, 1) := by decide +kernel
theorem dX11_queueAt_34 : decode cX11_queueAt 34 = .ok (.iload_n 3, 1) := by decide +kernel
theorem dX11_queueAt_35 : decode cX11_queueAt 35 = .ok (.invokevirtual 220, 3) := by decide +kernel
theorem dX11_queueAt_38 : decode cX11_queueAt 38 = .ok (.ireturn, 1) := by decide +kernel
theorem dX11_entries_0 : decode cX11_entries 0 = .ok (.aload_n 0, 1) := by decide +kernel
theorem dX11_entries_1 : decode cX11_entries 1 = .ok (.getfield 10, 3) := by decide +kernel
theorem dX11_entries_4 : decode cX11_entries 4 = .ok (.getfield 25, 3) := by decide +kernel
theorem dX11_entries_7 : decode cX11_entries 7 = .ok (.getfield 197, 3) := by decide +kernel
theorem dX11_entries_10 : decode cX11_entries 10 = .ok (.invokevirtual 223, 3) := by decide +kernel
theorem dX11_entries_13 : decode cX11_entries 13 = .ok (.ireturn, 1) := by decide +kernel
theorem dX11_entryAt_0 : decode cX11_entryAt 0 = .ok (.aload_n 0, 1) := by decide +kernel
theorem dX11_entryAt_1 : decode cX11_entryAt 1 = .ok (.getfield 10, 3) := by decide +kernel
theorem dX11_entryAt_4 : decode cX11_entryAt 4 = .ok (.getfield 25, 3) := by decide +kernel
theorem dX11_entryAt_7 : decode cX11_entryAt 7 = .ok (.getfield 197, 3) := by decide +kernel
theorem dX11_entryAt_10 : decode cX11_entryAt 10 = .ok (.iload_n 1, 1) := by decide +kernel
theorem dX11_entryAt_11 : decode cX11_entryAt 11 = .ok (.invokevirtual 224, 3) := by decide +kernel
theorem dX11_entryAt_14 : decode cX11_entryAt 14 = .ok (.astore_n 3, 1) := by decide +kernel
theorem dX11_entryAt_15 : decode cX11_entryAt 15 = .ok (.aload_n 3, 1) := by decide +kernel
theorem dX11_entryAt_16 : decode cX11_entryAt 16 = .ok (.ifnonnull 13, 3) := by decide +kernel
theorem dX11_entryAt_19 : decode cX11_entryAt 19 = .ok (.new 213, 3) := by decide +kernel
theorem dX11_entryAt_22 : decode cX11_entryAt 22 = .ok (.dup, 1) := by decide +kernel
theorem dX11_entryAt_23 : decode cX11_entryAt 23 = .ok (.ldc 228, 2) := by decide +kernel
theorem dX11_entryAt_25 : decode cX11_entryAt 25 = .ok (.invokespecial 217, 3) := by decide +kernel
theorem dX11_entryAt_28 : decode cX11_entryAt 28 = .ok (.athrow, 1) := by decide +kernel
theorem dX11_entryAt_29 : decode cX11_entryAt 29 = .ok (.iload_n 2, 1) := by decide +kernel
theorem dX11_entryAt_30 : decode cX11_entryAt 30 = .ok (.iconst 0, 1) := by decide +kernel
theorem dX11_entryAt_31 : decode cX11_entryAt 31 = .ok (.iconst 4, 1) := by decide +kernel
theorem dX11_entryAt_32 : decode cX11_entryAt 32 = .ok (.invokestatic 21, 3) := by decide +kernel
theorem dX11_entryAt_35 : decode cX11_entryAt 35 = .ok (.aload_n 3, 1) := by decide +kernel
theorem dX11_entryAt_36 : decode cX11_entryAt 36 = .ok (.iload_n 2, 1) := by decide +kernel
theorem dX11_entryAt_37 : decode cX11_entryAt 37 = .ok (.invokevirtual 232, 3) := by decide +kernel
theorem dX11_entryAt_40 : decode cX11_entryAt 40 = .ok (.lreturn, 1) := by decide +kernel
theorem dX11_advice_0 : decode cX11_advice 0 = .ok (.iload_n 1, 1) := by decide +kernel
theorem dX11_advice_1 : decode cX11_advice 1 = .ok (.bipush 6, 2) := by decide +kernel
theorem dX11_advice_3 : decode cX11_advice 3 = .ok (.invokestatic 16, 3) := by decide +kernel
theorem dX11_advice_6 : decode cX11_advice 6 = .ok (.aload_n 0, 1) := by decide +kernel
theorem dX11_advice_7 : decode cX11_advice 7 = .ok (.getfield 10, 3) := by decide +kernel
theorem dX11_advice_10 : decode cX11_advice 10 = .ok (.getfield 57, 3) := by decide +kernel
theorem dX11_advice_13 : decode cX11_advice 13 = .ok (.iload_n 1, 1) := by decide +kernel
theorem dX11_advice_14 : decode cX11_advice 14 = .ok (.invokevirtual 61, 3) := by decide +kernel
theorem dX11_advice_17 : decode cX11_advice 17 = .ok (.ifCond .eq 7, 3) := by decide +kernel
theorem dX11_advice_20 : decode cX11_advice 20 = .ok (.iconst (-1), 1) := by decide +kernel
theorem dX11_advice_21 : decode cX11_advice 21 = .ok (.goto 14, 3) := by decide +kernel
theorem dX11_advice_24 : decode cX11_advice 24 = .ok (.aload_n 0, 1) := by decide +kernel
theorem dX11_advice_25 : decode cX11_advice 25 = .ok (.getfield 10, 3) := by decide +kernel
theorem dX11_advice_28 : decode cX11_advice 28 = .ok (.getfield 235, 3) := by decide +kernel
theorem dX11_advice_31 : decode cX11_advice 31 = .ok (.iload_n 1, 1) := by decide +kernel
theorem dX11_advice_32 : decode cX11_advice 32 = .ok (.invokevirtual 239, 3) := by decide +kernel
theorem dX11_advice_35 : decode cX11_advice 35 = .ok (.ireturn, 1) := by decide +kernel
theorem dX11_again_0 : decode cX11_again 0 = .ok (.iload_n 1, 1) := by decide +kernel
theorem dX11_again_1 : decode cX11_again 1 = .ok (.bipush 6, 2) := by decide +kernel
theorem dX11_again_3 : decode cX11_again 3 = .ok (.invokestatic 16, 3) := by decide +kernel
theorem dX11_again_6 : decode cX11_again 6 = .ok (.iload_n 2, 1) := by decide +kernel
theorem dX11_again_7 : decode cX11_again 7 = .ok (.iconst 0, 1) := by decide +kernel
theorem dX11_again_8 : decode cX11_again 8 = .ok (.aload_n 0, 1) := by decide +kernel
theorem dX11_again_9 : decode cX11_again 9 = .ok (.getfield 10, 3) := by decide +kernel
theorem dX11_again_12 : decode cX11_again 12 = .ok (.getfield 235, 3) := by decide +kernel
theorem dX11_again_15 : decode cX11_again 15 = .ok (.iload_n 1, 1) := by decide +kernel
theorem dX11_again_16 : decode cX11_again 16 = .ok (.invokevirtual 244, 3) := by decide +kernel
theorem dX11_again_19 : decode cX11_again 19 = .ok (.invokestatic 21, 3) := by decide +kernel
theorem dX11_again_22 : decode cX11_again 22 = .ok (.aload_n 0, 1) := by decide +kernel
theorem dX11_again_23 : decode cX11_again 23 = .ok (.getfield 10, 3) := by decide +kernel
theorem dX11_again_26 : decode cX11_again 26 = .ok (.getfield 235, 3) := by decide +kernel
theorem dX11_again_29 : decode cX11_again 29 = .ok (.iload_n 1, 1) := by decide +kernel
theorem dX11_again_30 : decode cX11_again 30 = .ok (.iload_n 2, 1) := by decide +kernel
theorem dX11_again_31 : decode cX11_again 31 = .ok (.invokevirtual 247, 3) := by decide +kernel
theorem dX11_again_34 : decode cX11_again 34 = .ok (.ireturn, 1) := by decide +kernel
theorem dX11_needPlace_0 : decode cX11_needPlace 0 = .ok (.iload_n 0, 1) := by decide +kernel
theorem dX11_needPlace_1 : decode cX11_needPlace 1 = .ok (.ifCond .lt 8, 3) := by decide +kernel
theorem dX11_needPlace_4 : decode cX11_needPlace 4 = .ok (.iload_n 0, 1) := by decide +kernel
theorem dX11_needPlace_5 : decode cX11_needPlace 5 = .ok (.iload_n 1, 1) := by decide +kernel
theorem dX11_needPlace_6 : decode cX11_needPlace 6 = .ok (.if_icmp .lt 13, 3) := by decide +kernel
theorem dX11_needPlace_9 : decode cX11_needPlace 9 = .ok (.new 213, 3) := by decide +kernel
theorem dX11_needPlace_12 : decode cX11_needPlace 12 = .ok (.dup, 1) := by decide +kernel
theorem dX11_needPlace_13 : decode cX11_needPlace 13 = .ok (.ldc 250, 2) := by decide +kernel
theorem dX11_needPlace_15 : decode cX11_needPlace 15 = .ok (.invokespecial 217, 3) := by decide +kernel
theorem dX11_needPlace_18 : decode cX11_needPlace 18 = .ok (.athrow, 1) := by decide +kernel
theorem dX11_needPlace_19 : decode cX11_needPlace 19 = .ok (.return_, 1) := by decide +kernel
theorem dX11_needRange_0 : decode cX11_needRange 0 = .ok (.iload_n 0, 1) := by decide +kernel
theorem dX11_needRange_1 : decode cX11_needRange 1 = .ok (.iload_n 1, 1) := by decide +kernel
theorem dX11_needRange_2 : decode cX11_needRange 2 = .ok (.if_icmp .lt 8, 3) := by decide +kernel
theorem dX11_needRange_5 : decode cX11_needRange 5 = .ok (.iload_n 0, 1) := by decide +kernel
theorem dX11_needRange_6 : decode cX11_needRange 6 = .ok (.iload_n 2, 1) := by decide +kernel
theorem dX11_needRange_7 : decode cX11_needRange 7 = .ok (.if_icmp .le 13, 3) := by decide +kernel
theorem dX11_needRange_10 : decode cX11_needRange 10 = .ok (.new 252, 3) := by decide +kernel
theorem dX11_needRange_13 : decode cX11_needRange 13 = .ok (.dup, 1) := by decide +kernel
theorem dX11_needRange_14 : decode cX11_needRange 14 = .ok (.ldc 254, 2) := by decide +kernel
theorem dX11_needRange_16 : decode cX11_needRange 16 = .ok (.invokespecial 256, 3) := by decide +kernel
theorem dX11_needRange_19 : decode cX11_needRange 19 = .ok (.athrow, 1) := by decide +kernel
theorem dX11_needRange_20 : decode cX11_needRange 20 = .ok (.return_, 1) := by decide +kernel
theorem dX11_needTwoBanks_0 : decode cX11_needTwoBanks 0 = .ok (.iload_n 0, 1) := by decide +kernel
theorem dX11_needTwoBanks_1 : decode cX11_needTwoBanks 1 = .ok (.iload_n 1, 1) := by decide +kernel
theorem dX11_needTwoBanks_2 : decode cX11_needTwoBanks 2 = .ok (.if_icmp .ne 14, 3) := by decide +kernel
theorem dX11_needTwoBanks_5 : decode cX11_needTwoBanks 5 = .ok (.new 252, 3) := by decide +kernel
theorem dX11_needTwoBanks_8 : decode cX11_needTwoBanks 8 = .ok (.dup, 1) := by decide +kernel
theorem dX11_needTwoBanks_9 : decode cX11_needTwoBanks 9 = .ok (.ldc_w 257, 3) := by decide +kernel
theorem dX11_needTwoBanks_12 : decode cX11_needTwoBanks 12 = .ok (.invokespecial 256, 3) := by decide +kernel
theorem dX11_needTwoBanks_15 : decode cX11_needTwoBanks 15 = .ok (.athrow, 1) := by decide +kernel
theorem dX11_needTwoBanks_16 : decode cX11_needTwoBanks 16 = .ok (.return_, 1) := by decide +kernel
theorem dX11_needState_0 : decode cX11_needState 0 = .ok (.iload_n 0, 1) := by decide +kernel
theorem dX11_needState_1 : decode cX11_needState 1 = .ok (.ifCond .ne 14, 3) := by decide +kernel
theorem dX11_needState_4 : decode cX11_needState 4 = .ok (.new 259, 3) := by decide +kernel
theorem dX11_needState_7 : decode cX11_needState 7 = .ok (.dup, 1) := by decide +kernel
theorem dX11_needState_8 : decode cX11_needState 8 = .ok (.ldc_w 261, 3) := by decide +kernel
theorem dX11_needState_11 : decode cX11_needState 11 = .ok (.invokespecial 263, 3) := by decide +kernel
theorem dX11_needState_14 : decode cX11_needState 14 = .ok (.athrow, 1) := by decide +kernel
theorem dX11_needState_15 : decode cX11_needState 15 = .ok (.return_, 1) := by decide +kernel
theorem dX11_needPayment_0 : decode cX11_needPayment 0 = .ok (.aload_n 0, 1) := by decide +kernel
theorem dX11_needPayment_1 : decode cX11_needPayment 1 = .ok (.getfield 10, 3) := by decide +kernel
theorem dX11_needPayment_4 : decode cX11_needPayment 4 = .ok (.getfield 105, 3) := by decide +kernel
theorem dX11_needPayment_7 : decode cX11_needPayment 7 = .ok (.iload_n 1, 1) := by decide +kernel
theorem dX11_needPayment_8 : decode cX11_needPayment 8 = .ok (.invokevirtual 264, 3) := by decide +kernel
theorem dX11_needPayment_11 : decode cX11_needPayment 11 = .ok (.astore_n 2, 1) := by decide +kernel
theorem dX11_needPayment_12 : decode cX11_needPayment 12 = .ok (.aload_n 2, 1) := by decide +kernel
theorem dX11_needPayment_13 : decode cX11_needPayment 13 = .ok (.ifnonnull 14, 3) := by decide +kernel
theorem dX11_needPayment_16 : decode cX11_needPayment 16 = .ok (.new 213, 3) := by decide +kernel
theorem dX11_needPayment_19 : decode cX11_needPayment 19 = .ok (.dup, 1) := by decide +kernel
theorem dX11_needPayment_20 : decode cX11_needPayment 20 = .ok (.ldc_w 266, 3) := by decide +kernel
theorem dX11_needPayment_23 : decode cX11_needPayment 23 = .ok (.invokespecial 217, 3) := by decide +kernel
theorem dX11_needPayment_26 : decode cX11_needPayment 26 = .ok (.athrow, 1) := by decide +kernel
theorem dX11_needPayment_27 : decode cX11_needPayment 27 = .ok (.aload_n 2, 1) := by decide +kernel
theorem dX11_needPayment_28 : decode cX11_needPayment 28 = .ok (.areturn, 1) := by decide +kernel
theorem dX11_accountSlot_0 : decode cX11_accountSlot 0 = .ok (.iload_n 0, 1) := by decide +kernel
theorem dX11_accountSlot_1 : decode cX11_accountSlot 1 = .ok (.iconst 3, 1) := by decide +kernel
theorem dX11_accountSlot_2 : decode cX11_accountSlot 2 = .ok (.imul, 1) := by decide +kernel
theorem dX11_accountSlot_3 : decode cX11_accountSlot 3 = .ok (.iload_n 1, 1) := by decide +kernel
theorem dX11_accountSlot_4 : decode cX11_accountSlot 4 = .ok (.iadd, 1) := by decide +kernel
theorem dX11_accountSlot_5 : decode cX11_accountSlot 5 = .ok (.ireturn, 1) := by decide +kernel
theorem dX11_pairSlot_0 : decode cX11_pairSlot 0 = .ok (.iload_n 0, 1) := by decide +kernel
theorem dX11_pairSlot_1 : decode cX11_pairSlot 1 = .ok (.bipush 6, 2) := by decide +kernel
theorem dX11_pairSlot_3 : decode cX11_pairSlot 3 = .ok (.imul, 1) := by decide +kernel
theorem dX11_pairSlot_4 : decode cX11_pairSlot 4 = .ok (.iload_n 1, 1) := by decide +kernel
theorem dX11_pairSlot_5 : decode cX11_pairSlot 5 = .ok (.iadd, 1) := by decide +kernel
theorem dX11_pairSlot_6 : decode cX11_pairSlot 6 = .ok (.iconst 3, 1) := by decide +kernel
theorem dX11_pairSlot_7 : decode cX11_pairSlot 7 = .ok (.imul, 1) := by decide +kernel
theorem dX11_pairSlot_8 : decode cX11_pairSlot 8 = .ok (.iload_n 2, 1) := by decide +kernel
theorem dX11_pairSlot_9 : decode cX11_pairSlot 9 = .ok (.iadd, 1) := by decide +kernel
theorem dX11_pairSlot_10 : decode cX11_pairSlot 10 = .ok (.ireturn, 1) := by decide +kernel
theorem dJ9_max_7cf53_0 : decode cJ9_max_7cf53 0 = .ok (.iload_n 0, 1) := by decide +kernel
theorem dJ9_max_7cf53_1 : decode cJ9_max_7cf53 1 = .ok (.iload_n 1, 1) := by decide +kernel
theorem dJ9_max_7cf53_2 : decode cJ9_max_7cf53 2 = .ok (.if_icmp .lt 7, 3) := by decide +kernel
theorem dJ9_max_7cf53_5 : decode cJ9_max_7cf53 5 = .ok (.iload_n 0, 1) := by decide +kernel
theorem dJ9_max_7cf53_6 : decode cJ9_max_7cf53 6 = .ok (.goto 4, 3) := by decide +kernel
theorem dJ9_max_7cf53_9 : decode cJ9_max_7cf53 9 = .ok (.iload_n 1, 1) := by decide +kernel
theorem dJ9_max_7cf53_10 : decode cJ9_max_7cf53 10 = .ok (.ireturn, 1) := by decide +kernel
theorem dJ9_max_f86c9_0 : decode cJ9_max_f86c9 0 = .ok (.lload_n 0, 1) := by decide +kernel
theorem dJ9_max_f86c9_1 : decode cJ9_max_f86c9 1 = .ok (.lload_n 2, 1) := by decide +kernel
theorem dJ9_max_f86c9_2 : decode cJ9_max_f86c9 2 = .ok (.lcmp, 1) := by decide +kernel
theorem dJ9_max_f86c9_3 : decode cJ9_max_f86c9 3 = .ok (.ifCond .lt 7, 3) := by decide +kernel
theorem dJ9_max_f86c9_6 : decode cJ9_max_f86c9 6 = .ok (.lload_n 0, 1) := by decide +kernel
theorem dJ9_max_f86c9_7 : decode cJ9_max_f86c9 7 = .ok (.goto 4, 3) := by decide +kernel
theorem dJ9_max_f86c9_10 : decode cJ9_max_f86c9 10 = .ok (.lload_n 2, 1) := by decide +kernel
theorem dJ9_max_f86c9_11 : decode cJ9_max_f86c9 11 = .ok (.lreturn, 1) := by decide +kernel
theorem dJ9_min_7cf53_0 : decode cJ9_min_7cf53 0 = .ok (.iload_n 0, 1) := by decide +kernel
theorem dJ9_min_7cf53_1 : decode cJ9_min_7cf53 1 = .ok (.iload_n 1, 1) := by decide +kernel
theorem dJ9_min_7cf53_2 : decode cJ9_min_7cf53 2 = .ok (.if_icmp .gt 7, 3) := by decide +kernel
theorem dJ9_min_7cf53_5 : decode cJ9_min_7cf53 5 = .ok (.iload_n 0, 1) := by decide +kernel
theorem dJ9_min_7cf53_6 : decode cJ9_min_7cf53 6 = .ok (.goto 4, 3) := by decide +kernel
theorem dJ9_min_7cf53_9 : decode cJ9_min_7cf53 9 = .ok (.iload_n 1, 1) := by decide +kernel
theorem dJ9_min_7cf53_10 : decode cJ9_min_7cf53 10 = .ok (.ireturn, 1) := by decide +kernel
theorem dJxa1e45_init_da8c8_0 : decode cJxa1e45_init_da8c8 0 = .ok (.aload_n 0, 1) := by decide +kernel
theorem dJxa1e45_init_da8c8_1 : decode cJxa1e45_init_da8c8 1 = .ok (.invokespecial 1, 3) := by decide +kernel
theorem dJxa1e45_init_da8c8_4 : decode cJxa1e45_init_da8c8 4 = .ok (.return_, 1) := by decide +kernel
theorem dJxc12de_init_da8c8_0 : decode cJxc12de_init_da8c8 0 = .ok (.aload_n 0, 1) := by decide +kernel
theorem dJxc12de_init_da8c8_1 : decode cJxc12de_init_da8c8 1 = .ok (.invokespecial 1, 3) := by decide +kernel
theorem dJxc12de_init_da8c8_4 : decode cJxc12de_init_da8c8 4 = .ok (.aload_n 0, 1) := by decide +kernel
theorem dJxc12de_init_da8c8_5 : decode cJxc12de_init_da8c8 5 = .ok (.iconst 0, 1) := by decide +kernel
theorem dJxc12de_init_da8c8_6 : decode cJxc12de_init_da8c8 6 = .ok (.putfield 7, 3) := by decide +kernel
theorem dJxc12de_init_da8c8_9 : decode cJxc12de_init_da8c8 9 = .ok (.return_, 1) := by decide +kernel
theorem dJx4a65c_init_da8c8_0 : decode cJx4a65c_init_da8c8 0 = .ok (.aload_n 0, 1) := by decide +kernel
theorem dJx4a65c_init_da8c8_1 : decode cJx4a65c_init_da8c8 1 = .ok (.invokespecial 1, 3) := by decide +kernel
theorem dJx4a65c_init_da8c8_4 : decode cJx4a65c_init_da8c8 4 = .ok (.aload_n 0, 1) := by decide +kernel
theorem dJx4a65c_init_da8c8_5 : decode cJx4a65c_init_da8c8 5 = .ok (.getstatic 39, 3) := by decide +kernel
theorem dJx4a65c_init_da8c8_8 : decode cJx4a65c_init_da8c8 8 = .ok (.putfield 9, 3) := by decide +kernel
theorem dJx4a65c_init_da8c8_11 : decode cJx4a65c_init_da8c8 11 = .ok (.return_, 1) := by decide +kernel
theorem dJx4a65c_grow_92f84_0 : decode cJx4a65c_grow_92f84 0 = .ok (.aload_n 0, 1) := by decide +kernel
theorem dJx4a65c_grow_92f84_1 : decode cJx4a65c_grow_92f84 1 = .ok (.getfield 9, 3) := by decide +kernel
theorem dJx4a65c_grow_92f84_4 : decode cJx4a65c_grow_92f84 4 = .ok (.arraylength, 1) := by decide +kernel
theorem dJx4a65c_grow_92f84_5 : decode cJx4a65c_grow_92f84 5 = .ok (.istore_n 2, 1) := by decide +kernel
theorem dJx4a65c_grow_92f84_6 : decode cJx4a65c_grow_92f84 6 = .ok (.iload_n 2, 1) := by decide +kernel
theorem dJx4a65c_grow_92f84_7 : decode cJx4a65c_grow_92f84 7 = .ok (.ifCond .gt 13, 3) := by decide +kernel
theorem dJx4a65c_grow_92f84_10 : decode cJx4a65c_grow_92f84 10 = .ok (.aload_n 0, 1) := by decide +kernel
theorem dJx4a65c_grow_92f84_11 : decode cJx4a65c_grow_92f84 11 = .ok (.getfield 9, 3) := by decide +kernel
theorem dJx4a65c_grow_92f84_14 : decode cJx4a65c_grow_92f84 14 = .ok (.getstatic 39, 3) := by decide +kernel
theorem dJx4a65c_grow_92f84_17 : decode cJx4a65c_grow_92f84 17 = .ok (.if_acmp .eq 28, 3) := by decide +kernel
theorem dJx4a65c_grow_92f84_20 : decode cJx4a65c_grow_92f84 20 = .ok (.iload_n 2, 1) := by decide +kernel
theorem dJx4a65c_grow_92f84_21 : decode cJx4a65c_grow_92f84 21 = .ok (.iload_n 1, 1) := by decide +kernel
theorem dJx4a65c_grow_92f84_22 : decode cJx4a65c_grow_92f84 22 = .ok (.iload_n 2, 1) := by decide +kernel
theorem dJx4a65c_grow_92f84_23 : decode cJx4a65c_grow_92f84 23 = .ok (.isub, 1) := by decide +kernel
theorem dJx4a65c_grow_92f84_24 : decode cJx4a65c_grow_92f84 24 = .ok (.iload_n 2, 1) := by decide +kernel
theorem dJx4a65c_grow_92f84_25 : decode cJx4a65c_grow_92f84 25 = .ok (.iconst 1, 1) := by decide +kernel
theorem dJx4a65c_grow_92f84_26 : decode cJx4a65c_grow_92f84 26 = .ok (.ishr, 1) := by decide +kernel
theorem dJx4a65c_grow_92f84_27 : decode cJx4a65c_grow_92f84 27 = .ok (.invokestatic 73, 3) := by decide +kernel
theorem dJx4a65c_grow_92f84_30 : decode cJx4a65c_grow_92f84 30 = .ok (.istore_n 3, 1) := by decide +kernel
theorem dJx4a65c_grow_92f84_31 : decode cJx4a65c_grow_92f84 31 = .ok (.aload_n 0, 1) := by decide +kernel
theorem dJx4a65c_grow_92f84_32 : decode cJx4a65c_grow_92f84 32 = .ok (.aload_n 0, 1) := by decide +kernel
theorem dJx4a65c_grow_92f84_33 : decode cJx4a65c_grow_92f84 33 = .ok (.getfield 9, 3) := by decide +kernel
theorem dJx4a65c_grow_92f84_36 : decode cJx4a65c_grow_92f84 36 = .ok (.iload_n 3, 1) := by decide +kernel
theorem dJx4a65c_grow_92f84_37 : decode cJx4a65c_grow_92f84 37 = .ok (.invokestatic 66, 3) := by decide +kernel
theorem dJx4a65c_grow_92f84_40 : decode cJx4a65c_grow_92f84 40 = .ok (.dup_x1, 1) := by decide +kernel
theorem dJx4a65c_grow_92f84_41 : decode cJx4a65c_grow_92f84 41 = .ok (.putfield 9, 3) := by decide +kernel
theorem dJx4a65c_grow_92f84_44 : decode cJx4a65c_grow_92f84 44 = .ok (.areturn, 1) := by decide +kernel
theorem dJx4a65c_grow_92f84_45 : decode cJx4a65c_grow_92f84 45 = .ok (.aload_n 0, 1) := by decide +kernel
theorem dJx4a65c_grow_92f84_46 : decode cJx4a65c_grow_92f84 46 = .ok (.bipush 10, 2) := by decide +kernel
theorem dJx4a65c_grow_92f84_48 : decode cJx4a65c_grow_92f84 48 = .ok (.iload_n 1, 1) := by decide +kernel
theorem dJx4a65c_grow_92f84_49 : decode cJx4a65c_grow_92f84 49 = .ok (.invokestatic 79, 3) := by decide +kernel
theorem dJx4a65c_grow_92f84_52 : decode cJx4a65c_grow_92f84 52 = .ok (.anewarray 7, 3) := by decide +kernel
theorem dJx4a65c_grow_92f84_55 : decode cJx4a65c_grow_92f84 55 = .ok (.dup_x1, 1) := by decide +kernel
theorem dJx4a65c_grow_92f84_56 : decode cJx4a65c_grow_92f84 56 = .ok (.putfield 9, 3) := by decide +kernel
theorem dJx4a65c_grow_92f84_59 : decode cJx4a65c_grow_92f84 59 = .ok (.areturn, 1) := by decide +kernel
theorem dJx4a65c_grow_d5877_0 : decode cJx4a65c_grow_d5877 0 = .ok (.aload_n 0, 1) := by decide +kernel
theorem dJx4a65c_grow_d5877_1 : decode cJx4a65c_grow_d5877 1 = .ok (.aload_n 0, 1) := by decide +kernel
theorem dJx4a65c_grow_d5877_2 : decode cJx4a65c_grow_d5877 2 = .ok (.getfield 48, 3) := by decide +kernel
theorem dJx4a65c_grow_d5877_5 : decode cJx4a65c_grow_d5877 5 = .ok (.iconst 1, 1) := by decide +kernel
theorem dJx4a65c_grow_d5877_6 : decode cJx4a65c_grow_d5877 6 = .ok (.iadd, 1) := by decide +kernel
theorem dJx4a65c_grow_d5877_7 : decode cJx4a65c_grow_d5877 7 = .ok (.invokevirtual 69, 3) := by decide +kernel
theorem dJx4a65c_grow_d5877_10 : decode cJx4a65c_grow_d5877 10 = .ok (.areturn, 1) := by decide +kernel
theorem dJx4a65c_size_8abf5_0 : decode cJx4a65c_size_8abf5 0 = .ok (.aload_n 0, 1) := by decide +kernel
theorem dJx4a65c_size_8abf5_1 : decode cJx4a65c_size_8abf5 1 = .ok (.getfield 48, 3) := by decide +kernel
theorem dJx4a65c_size_8abf5_4 : decode cJx4a65c_size_8abf5 4 = .ok (.ireturn, 1) := by decide +kernel
theorem dJx4a65c_elementData_915e3_0 : decode cJx4a65c_elementData_915e3 0 = .ok (.aload_n 0, 1) := by decide +kernel
theorem dJx4a65c_elementData_915e3_1 : decode cJx4a65c_elementData_915e3 1 = .ok (.getfield 9, 3) := by decide +kernel
theorem dJx4a65c_elementData_915e3_4 : decode cJx4a65c_elementData_915e3 4 = .ok (.iload_n 1, 1) := by decide +kernel
theorem dJx4a65c_elementData_915e3_5 : decode cJx4a65c_elementData_915e3 5 = .ok (.aaload, 1) := by decide +kernel
theorem dJx4a65c_elementData_915e3_6 : decode cJx4a65c_elementData_915e3 6 = .ok (.areturn, 1) := by decide +kernel
theorem dJx4a65c_get_915e3_0 : decode cJx4a65c_get_915e3 0 = .ok (.iload_n 1, 1) := by decide +kernel
theorem dJx4a65c_get_915e3_1 : decode cJx4a65c_get_915e3 1 = .ok (.aload_n 0, 1) := by decide +kernel
theorem dJx4a65c_get_915e3_2 : decode cJx4a65c_get_915e3 2 = .ok (.getfield 48, 3) := by decide +kernel
theorem dJx4a65c_get_915e3_5 : decode cJx4a65c_get_915e3 5 = .ok (.invokestatic 118, 3) := by decide +kernel
theorem dJx4a65c_get_915e3_8 : decode cJx4a65c_get_915e3 8 = .ok (.pop, 1) := by decide +kernel
theorem dJx4a65c_get_915e3_9 : decode cJx4a65c_get_915e3 9 = .ok (.aload_n 0, 1) := by decide +kernel
theorem dJx4a65c_get_915e3_10 : decode cJx4a65c_get_915e3 10 = .ok (.iload_n 1, 1) := by decide +kernel
theorem dJx4a65c_get_915e3_11 : decode cJx4a65c_get_915e3 11 = .ok (.invokevirtual 123, 3) := by decide +kernel
theorem dJx4a65c_get_915e3_14 : decode cJx4a65c_get_915e3 14 = .ok (.areturn, 1) := by decide +kernel
theorem dJx4a65c_add_72be8_0 : decode cJx4a65c_add_72be8 0 = .ok (.iload_n 3, 1) := by decide +kernel
theorem dJx4a65c_add_72be8_1 : decode cJx4a65c_add_72be8 1 = .ok (.aload_n 2, 1) := by decide +kernel
theorem dJx4a65c_add_72be8_2 : decode cJx4a65c_add_72be8 2 = .ok (.arraylength, 1) := by decide +kernel
theorem dJx4a65c_add_72be8_3 : decode cJx4a65c_add_72be8 3 = .ok (.if_icmp .ne 8, 3) := by decide +kernel
theorem dJx4a65c_add_72be8_6 : decode cJx4a65c_add_72be8 6 = .ok (.aload_n 0, 1) := by decide +kernel
theorem dJx4a65c_add_72be8_7 : decode cJx4a65c_add_72be8 7 = .ok (.invokevirtual 129, 3) := by decide +kernel
theorem dJx4a65c_add_72be8_10 : decode cJx4a65c_add_72be8 10 = .ok (.astore_n 2, 1) := by decide +kernel
theorem dJx4a65c_add_72be8_11 : decode cJx4a65c_add_72be8 11 = .ok (.aload_n 2, 1) := by decide +kernel
theorem dJx4a65c_add_72be8_12 : decode cJx4a65c_add_72be8 12 = .ok (.iload_n 3, 1) := by decide +kernel
theorem dJx4a65c_add_72be8_13 : decode cJx4a65c_add_72be8 13 = .ok (.aload_n 1, 1) := by decide +kernel
theorem dJx4a65c_add_72be8_14 : decode cJx4a65c_add_72be8 14 = .ok (.aastore, 1) := by decide +kernel
theorem dJx4a65c_add_72be8_15 : decode cJx4a65c_add_72be8 15 = .ok (.aload_n 0, 1) := by decide +kernel
theorem dJx4a65c_add_72be8_16 : decode cJx4a65c_add_72be8 16 = .ok (.iload_n 3, 1) := by decide +kernel
theorem dJx4a65c_add_72be8_17 : decode cJx4a65c_add_72be8 17 = .ok (.iconst 1, 1) := by decide +kernel
theorem dJx4a65c_add_72be8_18 : decode cJx4a65c_add_72be8 18 = .ok (.iadd, 1) := by decide +kernel
theorem dJx4a65c_add_72be8_19 : decode cJx4a65c_add_72be8 19 = .ok (.putfield 48, 3) := by decide +kernel
theorem dJx4a65c_add_72be8_22 : decode cJx4a65c_add_72be8 22 = .ok (.return_, 1) := by decide +kernel
theorem dJx4a65c_add_9ea2d_0 : decode cJx4a65c_add_9ea2d 0 = .ok (.aload_n 0, 1) := by decide +kernel
theorem dJx4a65c_add_9ea2d_1 : decode cJx4a65c_add_9ea2d 1 = .ok (.dup, 1) := by decide +kernel
theorem dJx4a65c_add_9ea2d_2 : decode cJx4a65c_add_9ea2d 2 = .ok (.getfield 63, 3) := by decide +kernel
theorem dJx4a65c_add_9ea2d_5 : decode cJx4a65c_add_9ea2d 5 = .ok (.iconst 1, 1) := by decide +kernel
theorem dJx4a65c_add_9ea2d_6 : decode cJx4a65c_add_9ea2d 6 = .ok (.iadd, 1) := by decide +kernel
theorem dJx4a65c_add_9ea2d_7 : decode cJx4a65c_add_9ea2d 7 = .ok (.putfield 63, 3) := by decide +kernel
theorem dJx4a65c_add_9ea2d_10 : decode cJx4a65c_add_9ea2d 10 = .ok (.aload_n 0, 1) := by decide +kernel
theorem dJx4a65c_add_9ea2d_11 : decode cJx4a65c_add_9ea2d 11 = .ok (.aload_n 1, 1) := by decide +kernel
theorem dJx4a65c_add_9ea2d_12 : decode cJx4a65c_add_9ea2d 12 = .ok (.aload_n 0, 1) := by decide +kernel
theorem dJx4a65c_add_9ea2d_13 : decode cJx4a65c_add_9ea2d 13 = .ok (.getfield 9, 3) := by decide +kernel
theorem dJx4a65c_add_9ea2d_16 : decode cJx4a65c_add_9ea2d 16 = .ok (.aload_n 0, 1) := by decide +kernel
theorem dJx4a65c_add_9ea2d_17 : decode cJx4a65c_add_9ea2d 17 = .ok (.getfield 48, 3) := by decide +kernel
theorem dJx4a65c_add_9ea2d_20 : decode cJx4a65c_add_9ea2d 20 = .ok (.invokevirtual 131, 3) := by decide +kernel
theorem dJx4a65c_add_9ea2d_23 : decode cJx4a65c_add_9ea2d 23 = .ok (.iconst 1, 1) := by decide +kernel
theorem dJx4a65c_add_9ea2d_24 : decode cJx4a65c_add_9ea2d 24 = .ok (.ireturn, 1) := by decide +kernel
theorem dJ7_copyOf_1904c_0 : decode cJ7_copyOf_1904c 0 = .ok (.aload_n 0, 1) := by decide +kernel
theorem dJ7_copyOf_1904c_1 : decode cJ7_copyOf_1904c 1 = .ok (.iload_n 1, 1) := by decide +kernel
theorem dJ7_copyOf_1904c_2 : decode cJ7_copyOf_1904c 2 = .ok (.aload_n 0, 1) := by decide +kernel
theorem dJ7_copyOf_1904c_3 : decode cJ7_copyOf_1904c 3 = .ok (.invokevirtual 86, 3) := by decide +kernel
theorem dJ7_copyOf_1904c_6 : decode cJ7_copyOf_1904c 6 = .ok (.invokestatic 300, 3) := by decide +kernel
theorem dJ7_copyOf_1904c_9 : decode cJ7_copyOf_1904c 9 = .ok (.areturn, 1) := by decide +kernel
theorem dJ7_copyOf_6403c_0 : decode cJ7_copyOf_6403c 0 = .ok (.aload_n 2, 1) := by decide +kernel
theorem dJ7_copyOf_6403c_1 : decode cJ7_copyOf_6403c 1 = .ok (.ldc 110, 2) := by decide +kernel
theorem dJ7_copyOf_6403c_3 : decode cJ7_copyOf_6403c 3 = .ok (.if_acmp .ne 10, 3) := by decide +kernel
theorem dJ7_copyOf_6403c_6 : decode cJ7_copyOf_6403c 6 = .ok (.iload_n 1, 1) := by decide +kernel
theorem dJ7_copyOf_6403c_7 : decode cJ7_copyOf_6403c 7 = .ok (.anewarray 2, 3) := by decide +kernel
theorem dJ7_copyOf_6403c_10 : decode cJ7_copyOf_6403c 10 = .ok (.goto 14, 3) := by decide +kernel
theorem dJ7_copyOf_6403c_13 : decode cJ7_copyOf_6403c 13 = .ok (.aload_n 2, 1) := by decide +kernel
theorem dJ7_copyOf_6403c_14 : decode cJ7_copyOf_6403c 14 = .ok (.invokevirtual 90, 3) := by decide +kernel
theorem dJ7_copyOf_6403c_17 : decode cJ7_copyOf_6403c 17 = .ok (.iload_n 1, 1) := by decide +kernel
theorem dJ7_copyOf_6403c_18 : decode cJ7_copyOf_6403c 18 = .ok (.invokestatic 95, 3) := by decide +kernel
theorem dJ7_copyOf_6403c_21 : decode cJ7_copyOf_6403c 21 = .ok (.checkcast 110, 3) := by decide +kernel
theorem dJ7_copyOf_6403c_24 : decode cJ7_copyOf_6403c 24 = .ok (.astore_n 3, 1) := by decide +kernel
theorem dJ7_copyOf_6403c_25 : decode cJ7_copyOf_6403c 25 = .ok (.aload_n 0, 1) := by decide +kernel
theorem dJ7_copyOf_6403c_26 : decode cJ7_copyOf_6403c 26 = .ok (.iconst 0, 1) := by decide +kernel
theorem dJ7_copyOf_6403c_27 : decode cJ7_copyOf_6403c 27 = .ok (.aload_n 3, 1) := by decide +kernel
theorem dJ7_copyOf_6403c_28 : decode cJ7_copyOf_6403c 28 = .ok (.iconst 0, 1) := by decide +kernel
theorem dJ7_copyOf_6403c_29 : decode cJ7_copyOf_6403c 29 = .ok (.aload_n 0, 1) := by decide +kernel
theorem dJ7_copyOf_6403c_30 : decode cJ7_copyOf_6403c 30 = .ok (.arraylength, 1) := by decide +kernel
theorem dJ7_copyOf_6403c_31 : decode cJ7_copyOf_6403c 31 = .ok (.iload_n 1, 1) := by decide +kernel
theorem dJ7_copyOf_6403c_32 : decode cJ7_copyOf_6403c 32 = .ok (.invokestatic 304, 3) := by decide +kernel
theorem dJ7_copyOf_6403c_35 : decode cJ7_copyOf_6403c 35 = .ok (.invokestatic 150, 3) := by decide +kernel
theorem dJ7_copyOf_6403c_38 : decode cJ7_copyOf_6403c 38 = .ok (.aload_n 3, 1) := by decide +kernel
theorem dJ7_copyOf_6403c_39 : decode cJ7_copyOf_6403c 39 = .ok (.areturn, 1) := by decide +kernel
theorem dJ15_checkIndex_7cf53_0 : decode cJ15_checkIndex_7cf53 0 = .ok (.iload_n 0, 1) := by decide +kernel
theorem dJ15_checkIndex_7cf53_1 : decode cJ15_checkIndex_7cf53 1 = .ok (.iload_n 1, 1) := by decide +kernel
theorem dJ15_checkIndex_7cf53_2 : decode cJ15_checkIndex_7cf53 2 = .ok (.aconst_null, 1) := by decide +kernel
theorem dJ15_checkIndex_7cf53_3 : decode cJ15_checkIndex_7cf53 3 = .ok (.invokestatic 105, 3) := by decide +kernel
theorem dJ15_checkIndex_7cf53_6 : decode cJ15_checkIndex_7cf53 6 = .ok (.ireturn, 1) := by decide +kernel
theorem dJ8_newLength_cabcc_0 : decode cJ8_newLength_cabcc 0 = .ok (.iload_n 0, 1) := by decide +kernel
theorem dJ8_newLength_cabcc_1 : decode cJ8_newLength_cabcc 1 = .ok (.iload_n 1, 1) := by decide +kernel
theorem dJ8_newLength_cabcc_2 : decode cJ8_newLength_cabcc 2 = .ok (.iload_n 2, 1) := by decide +kernel
theorem dJ8_newLength_cabcc_3 : decode cJ8_newLength_cabcc 3 = .ok (.invokestatic 194, 3) := by decide +kernel
theorem dJ8_newLength_cabcc_6 : decode cJ8_newLength_cabcc 6 = .ok (.iadd, 1) := by decide +kernel
theorem dJ8_newLength_cabcc_7 : decode cJ8_newLength_cabcc 7 = .ok (.istore_n 3, 1) := by decide +kernel
theorem dJ8_newLength_cabcc_8 : decode cJ8_newLength_cabcc 8 = .ok (.iconst 0, 1) := by decide +kernel
theorem dJ8_newLength_cabcc_9 : decode cJ8_newLength_cabcc 9 = .ok (.iload_n 3, 1) := by decide +kernel
theorem dJ8_newLength_cabcc_10 : decode cJ8_newLength_cabcc 10 = .ok (.if_icmp .ge 11, 3) := by decide +kernel
theorem dJ8_newLength_cabcc_13 : decode cJ8_newLength_cabcc 13 = .ok (.iload_n 3, 1) := by decide +kernel
theorem dJ8_newLength_cabcc_14 : decode cJ8_newLength_cabcc 14 = .ok (.ldc 200, 2) := by decide +kernel
theorem dJ8_newLength_cabcc_16 : decode cJ8_newLength_cabcc 16 = .ok (.if_icmp .gt 5, 3) := by decide +kernel
theorem dJ8_newLength_cabcc_19 : decode cJ8_newLength_cabcc 19 = .ok (.iload_n 3, 1) := by decide +kernel
theorem dJ8_newLength_cabcc_20 : decode cJ8_newLength_cabcc 20 = .ok (.ireturn, 1) := by decide +kernel
theorem dJ8_newLength_cabcc_21 : decode cJ8_newLength_cabcc 21 = .ok (.iload_n 0, 1) := by decide +kernel
theorem dJ8_newLength_cabcc_22 : decode cJ8_newLength_cabcc 22 = .ok (.iload_n 1, 1) := by decide +kernel
theorem dJ8_newLength_cabcc_23 : decode cJ8_newLength_cabcc 23 = .ok (.invokestatic 201, 3) := by decide +kernel
theorem dJ8_newLength_cabcc_26 : decode cJ8_newLength_cabcc 26 = .ok (.ireturn, 1) := by decide +kernel
theorem dJ8_hugeLength_7cf53_0 : decode cJ8_hugeLength_7cf53 0 = .ok (.iload_n 0, 1) := by decide +kernel
theorem dJ8_hugeLength_7cf53_1 : decode cJ8_hugeLength_7cf53 1 = .ok (.iload_n 1, 1) := by decide +kernel
theorem dJ8_hugeLength_7cf53_2 : decode cJ8_hugeLength_7cf53 2 = .ok (.iadd, 1) := by decide +kernel
theorem dJ8_hugeLength_7cf53_3 : decode cJ8_hugeLength_7cf53 3 = .ok (.istore_n 2, 1) := by decide +kernel
theorem dJ8_hugeLength_7cf53_4 : decode cJ8_hugeLength_7cf53 4 = .ok (.iload_n 2, 1) := by decide +kernel
theorem dJ8_hugeLength_7cf53_5 : decode cJ8_hugeLength_7cf53 5 = .ok (.ifCond .ge 44, 3) := by decide +kernel
theorem dJ8_hugeLength_7cf53_8 : decode cJ8_hugeLength_7cf53 8 = .ok (.new 204, 3) := by decide +kernel
theorem dJ8_hugeLength_7cf53_11 : decode cJ8_hugeLength_7cf53 11 = .ok (.dup, 1) := by decide +kernel
theorem dJ8_hugeLength_7cf53_12 : decode cJ8_hugeLength_7cf53 12 = .ok (.new 89, 3) := by decide +kernel
theorem dJ8_hugeLength_7cf53_15 : decode cJ8_hugeLength_7cf53 15 = .ok (.dup, 1) := by decide +kernel
theorem dJ8_hugeLength_7cf53_16 : decode cJ8_hugeLength_7cf53 16 = .ok (.invokespecial 91, 3) := by decide +kernel
theorem dJ8_hugeLength_7cf53_19 : decode cJ8_hugeLength_7cf53 19 = .ok (.ldc 206, 2) := by decide +kernel
theorem dJ8_hugeLength_7cf53_21 : decode cJ8_hugeLength_7cf53 21 = .ok (.invokevirtual 94, 3) := by decide +kernel
theorem dJ8_hugeLength_7cf53_24 : decode cJ8_hugeLength_7cf53 24 = .ok (.iload_n 0, 1) := by decide +kernel
theorem dJ8_hugeLength_7cf53_25 : decode cJ8_hugeLength_7cf53 25 = .ok (.invokevirtual 98, 3) := by decide +kernel
theorem dJ8_hugeLength_7cf53_28 : decode cJ8_hugeLength_7cf53 28 = .ok (.ldc 208, 2) := by decide +kernel
theorem dJ8_hugeLength_7cf53_30 : decode cJ8_hugeLength_7cf53 30 = .ok (.invokevirtual 94, 3) := by decide +kernel
theorem dJ8_hugeLength_7cf53_33 : decode cJ8_hugeLength_7cf53 33 = .ok (.iload_n 1, 1) := by decide +kernel
theorem dJ8_hugeLength_7cf53_34 : decode cJ8_hugeLength_7cf53 34 = .ok (.invokevirtual 98, 3) := by decide +kernel
theorem dJ8_hugeLength_7cf53_37 : decode cJ8_hugeLength_7cf53 37 = .ok (.ldc 210, 2) := by decide +kernel
theorem dJ8_hugeLength_7cf53_39 : decode cJ8_hugeLength_7cf53 39 = .ok (.invokevirtual 94, 3) := by decide +kernel
theorem dJ8_hugeLength_7cf53_42 : decode cJ8_hugeLength_7cf53 42 = .ok (.invokevirtual 101, 3) := by decide +kernel
theorem dJ8_hugeLength_7cf53_45 : decode cJ8_hugeLength_7cf53 45 = .ok (.invokespecial 212, 3) := by decide +kernel
theorem dJ8_hugeLength_7cf53_48 : decode cJ8_hugeLength_7cf53 48 = .ok (.athrow, 1) := by decide +kernel
theorem dJ8_hugeLength_7cf53_49 : decode cJ8_hugeLength_7cf53 49 = .ok (.iload_n 2, 1) := by decide +kernel
theorem dJ8_hugeLength_7cf53_50 : decode cJ8_hugeLength_7cf53 50 = .ok (.ldc 200, 2) := by decide +kernel
theorem dJ8_hugeLength_7cf53_52 : decode cJ8_hugeLength_7cf53 52 = .ok (.if_icmp .gt 6, 3) := by decide +kernel
theorem dJ8_hugeLength_7cf53_55 : decode cJ8_hugeLength_7cf53 55 = .ok (.ldc 200, 2) := by decide +kernel
theorem dJ8_hugeLength_7cf53_57 : decode cJ8_hugeLength_7cf53 57 = .ok (.ireturn, 1) := by decide +kernel
theorem dJ8_hugeLength_7cf53_58 : decode cJ8_hugeLength_7cf53 58 = .ok (.iload_n 2, 1) := by decide +kernel
theorem dJ8_hugeLength_7cf53_59 : decode cJ8_hugeLength_7cf53 59 = .ok (.ireturn, 1) := by decide +kernel
theorem dJ3_checkIndex_8e157_0 : decode cJ3_checkIndex_8e157 0 = .ok (.iload_n 0, 1) := by decide +kernel
theorem dJ3_checkIndex_8e157_1 : decode cJ3_checkIndex_8e157 1 = .ok (.ifCond .lt 8, 3) := by decide +kernel
theorem dJ3_checkIndex_8e157_4 : decode cJ3_checkIndex_8e157 4 = .ok (.iload_n 0, 1) := by decide +kernel
theorem dJ3_checkIndex_8e157_5 : decode cJ3_checkIndex_8e157 5 = .ok (.iload_n 1, 1) := by decide +kernel
theorem dJ3_checkIndex_8e157_6 : decode cJ3_checkIndex_8e157 6 = .ok (.if_icmp .lt 10, 3) := by decide +kernel
theorem dJ3_checkIndex_8e157_9 : decode cJ3_checkIndex_8e157 9 = .ok (.aload_n 2, 1) := by decide +kernel
theorem dJ3_checkIndex_8e157_10 : decode cJ3_checkIndex_8e157 10 = .ok (.iload_n 0, 1) := by decide +kernel
theorem dJ3_checkIndex_8e157_11 : decode cJ3_checkIndex_8e157 11 = .ok (.iload_n 1, 1) := by decide +kernel
theorem dJ3_checkIndex_8e157_12 : decode cJ3_checkIndex_8e157 12 = .ok (.invokestatic 95, 3) := by decide +kernel
theorem dJ3_checkIndex_8e157_15 : decode cJ3_checkIndex_8e157 15 = .ok (.athrow, 1) := by decide +kernel
theorem dJ3_checkIndex_8e157_16 : decode cJ3_checkIndex_8e157 16 = .ok (.iload_n 0, 1) := by decide +kernel
theorem dJ3_checkIndex_8e157_17 : decode cJ3_checkIndex_8e157 17 = .ok (.ireturn, 1) := by decide +kernel
end
section
set_option maxRecDepth 20000 in
theorem wsC_0_in : GoodIn lw_tbl wsC_0 := goodIn_p wsC_0 [50, 108, 105, 102] (by decide +kernel) (by decide +kernel)
set_option maxRecDepth 20000 in
theorem wsC_1_in : GoodIn lw_tbl wsC_1 := goodIn_p wsC_1 [71, 96, 67] (by decide +kernel) (by decide +kernel)
set_option maxRecDepth 20000 in
theorem wsC_2_in : GoodIn lw_tbl wsC_2 := goodIn_p wsC_2 [134, 683, 469, 638, 579] (by decide +kernel) (by decide +kernel)
set_option maxRecDepth 20000 in
theorem wsC_3_in : GoodIn lw_tbl wsC_3 := goodIn_p wsC_3 [611, 605, 574, 582] (by decide +kernel) (by decide +kernel)
set_option maxRecDepth 20000 in
theorem wsC_4_in : GoodIn lw_tbl wsC_4 := goodIn_p wsC_4 [571, 567, 563, 258, 559] (by decide +kernel) (by decide +kernel)
set_option maxRecDepth 20000 in
theorem wsC_5_in : GoodIn lw_tbl wsC_5 := goodIn_p wsC_5 [687, 738, 763, 731, 690] (by decide +kernel) (by decide +kernel)
set_option maxRecDepth 20000 in
theorem wsC_6_in : GoodIn lw_tbl wsC_6 := goodIn_p wsC_6 [971, 383] (by decide +kernel) (by decide +kernel)
end
section
set_option maxRecDepth 20000 in
theorem wsC_7_in : GoodIn lw_tbl wsC_7 := goodIn_p wsC_7 [675, 680, 703, 712] (by decide +kernel) (by decide +kernel)
set_option maxRecDepth 20000 in
theorem wsC_8_in : GoodIn lw_tbl wsC_8 := goodIn_p wsC_8 [698, 708, 483, 480, 487, 477] (by decide +kernel) (by decide +kernel)
set_option maxRecDepth 20000 in
theorem wsC_9_in : GoodIn lw_tbl wsC_9 := goodIn_p wsC_9 [624] (by decide +kernel) (by decide +kernel)
set_option maxRecDepth 20000 in
theorem wsC_10_in : GoodIn lw_tbl wsC_10 := goodIn_p wsC_10 [61, 90] (by decide +kernel) (by decide +kernel)
set_option maxRecDepth 20000 in
theorem wsC_11_in : GoodIn lw_tbl wsC_11 := goodIn_p wsC_11 [156, 175, 198, 508] (by decide +kernel) (by decide +kernel)
set_option maxRecDepth 20000 in
theorem wsC_12_in : GoodIn lw_tbl wsC_12 := goodIn_p wsC_12 [504, 620, 629] (by decide +kernel) (by decide +kernel)
set_option maxRecDepth 20000 in
theorem wsC_13_in : GoodIn lw_tbl wsC_13 := goodIn_p wsC_13 [407, 461, 254] (by decide +kernel) (by decide +kernel)
end
section
set_option maxRecDepth 20000 in
theorem wsC_14_in : GoodIn lw_tbl wsC_14 := goodIn_p wsC_14 [473, 654, 658, 722, 727] (by decide +kernel) (by decide +kernel)
set_option maxRecDepth 20000 in
theorem wsC_15_in : GoodIn lw_tbl wsC_15 := goodIn_p wsC_15 [770, 650, 662, 666, 671, 694] (by decide +kernel) (by decide +kernel)
set_option maxRecDepth 20000 in
theorem wsC_16_in : GoodIn lw_tbl wsC_16 := goodIn_p wsC_16 [716, 646, 937, 932, 943] (by decide +kernel) (by decide +kernel)
set_option maxRecDepth 20000 in
theorem wsC_17_in : GoodIn lw_tbl wsC_17 := goodIn_p wsC_17 [878, 901, 792, 975] (by decide +kernel) (by decide +kernel)
set_option maxRecDepth 20000 in
theorem wsC_18_in : GoodIn lw_tbl wsC_18 := goodIn_p wsC_18 [979, 927, 962, 967, 986, 990] (by decide +kernel) (by decide +kernel)
set_option maxRecDepth 20000 in
theorem wsC_19_in : GoodIn lw_tbl wsC_19 := goodIn_p wsC_19 [882, 55, 287, 378] (by decide +kernel) (by decide +kernel)
set_option maxRecDepth 20000 in
theorem wsC_20_in : GoodIn lw_tbl wsC_20 := goodIn_p wsC_20 [642, 812, 358, 825] (by decide +kernel) (by decide +kernel)
end
section
set_option maxRecDepth 20000 in
theorem wsC_21_in : GoodIn lw_tbl wsC_21 := goodIn_p wsC_21 [844, 857, 386, 465] (by decide +kernel) (by decide +kernel)
set_option maxRecDepth 20000 in
theorem wsC_22_in : GoodIn lw_tbl wsC_22 := goodIn_p wsC_22 [492, 496, 500, 634, 868, 874] (by decide +kernel) (by decide +kernel)
set_option maxRecDepth 20000 in
theorem wsC_23_in : GoodIn lw_tbl wsC_23 := goodIn_p wsC_23 [1012, 957, 1064] (by decide +kernel) (by decide +kernel)
set_option maxRecDepth 20000 in
theorem wsC_24_in : GoodIn lw_tbl wsC_24 := goodIn_p wsC_24 [1110, 1097, 1053, 1077, 1082, 1026] (by decide +kernel) (by decide +kernel)
set_option maxRecDepth 20000 in
theorem wsC_25_in : GoodIn lw_tbl wsC_25 := goodIn_p wsC_25 [1038, 1042] (by decide +kernel) (by decide +kernel)
end
section
def wsKc : List Cond := [.code yL_changes cL_changes 12 (some .boolean)]
set_option maxRecDepth 100000 in
theorem wsKc_in : GoodIn lw_tbl wsKc := goodIn_sub (fun w hw => by rw [wsKc, List.mem_singleton] at hw; subst hw; exact List.mem_of_getElem? (i := 780) rfl) (by decide +kernel)
end
