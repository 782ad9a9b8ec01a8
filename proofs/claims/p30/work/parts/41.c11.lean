/-! rows of Objects: made, written, copied; the static empty one -/
theorem gP.set2 {D : va_G} {B0 : Nat} {f : gF} {H H1 : Heap} (h : gP D B0 f H) {i a : Nat} {e0 e : va_E} (hi : f i = some (a, e0)) (he : va_at D vwCl (a, e) H1) (oq : ∀ (k : Nat) (q : Nat × va_E), f k = some q → q.1 ≠ a → va_at D vwCl q H1) : gP D B0 (gup f i a e) H1 := by
  have key : ∀ (j : Nat) (q : Nat × va_E), gup f i a e j = some q → (j = i ∧ q = (a, e)) ∨ (j ≠ i ∧ f j = some q) := by
    intro j q hj
    by_cases hji : j = i
    · subst hji
      rw [gup_s] at hj
      exact Or.inl ⟨rfl, (Option.some.inj hj).symm⟩
    · rw [gup_n _ _ _ hji] at hj
      exact Or.inr ⟨hji, hj⟩
  refine ⟨fun j q hj => ?_, fun j k q r hj hk hqr => ?_⟩
  · rcases key j q hj with ⟨rfl, rfl⟩ | ⟨hne, h2⟩
    · exact ⟨he, (h.1 _ _ hi).2⟩
    · exact ⟨oq j q h2 (fun e => hne (h.2 j i q _ h2 hi e)), (h.1 j q h2).2⟩
  · rcases key j q hj with ⟨rfl, rfl⟩ | ⟨hne, h2⟩ <;> rcases key k r hk with ⟨rfl, rfl⟩ | ⟨hne', h3⟩
    · rfl
    · exact absurd (h.2 k _ r _ h3 hi hqr.symm) hne'
    · exact absurd (h.2 j _ q _ h2 hi hqr) hne
    · exact h.2 j k q r h2 h3 hqr
section GQ
variable {p : Program} {l : Launch} {e : Env} {R : Room} {s : State} {m : MethodId} {args : Array Value} {below : List Frame} {meth : Method} {c : Code} {H : Heap} {locs : List Loc} {cells slots : Nat} {Q : State → Prop}
variable {cc : ByteArray} {pc : Nat} {ls : Array Slot} {rest : List Value}
variable {D : va_G} {cy : Nat → ClassId} {B0 : Nat} {H0 : State} {f : gF} {a : Nat}
theorem g_gets (hexec : p.tables.exec = Jvm.exec) (hb : c.code = cc) (hW : gW D B0 s f H locs) {own : String} {index : Nat} (hown : s.vm.findClass own = some m.cls) (hlink : (Cond.fieldLink own index "java/util/ArrayList" "DEFAULTCAPACITY_EMPTY_ELEMENTDATA" "[Ljava/lang/Object;").before args s = true) (hdg : decode cc pc = .ok (.getstatic index, 3))
    (k : W p l e R s m args below meth c H locs cells slots Q (F0 m (pc + 3) ls (.ref (D.1 21) :: rest))) : W p l e R s m args below meth c H locs cells slots Q (F0 m pc ls rest) :=
  va_gets hexec hb hW.2.2.2.1 hW.2.1 hown hlink (fun _ h => h) hdg k
theorem g_alenE (hexec : p.tables.exec = Jvm.exec) (hb : c.code = cc) (hK : gK D cy s) (hW : gW D B0 s f H locs) (hdg : decode cc pc = .ok (.arraylength, 1))
    (k : W p l e R s m args below meth c H locs cells slots Q (F0 m (pc + 1) ls (.int (iI 0) :: rest))) : W p l e R s m args below meth c H locs cells slots Q (F0 m pc ls (.ref (D.1 21) :: rest)) := by
  obtain ⟨h1, cell, c1, c2, c3, c4⟩ := hW.2.2.2.2.1
  have hE : H[D.1 21]? = some cell := by
    rw [hW.2.1.2.1 _ (Array.getElem?_eq_some_iff.mp c1).1 (Nat.not_le.mpr h1)]
    exact c1
  obtain ⟨_, kA, k1, comp, k2⟩ := (hK.1.2 3 _ rfl).1 0 (fun _ => Value.null)
  refine W.alen (n := iI 0) hexec hb hE (ty := .object "java/lang/Object") ⟨c2, kA, ?_, comp, k2⟩ (by rw [c4]; rfl) rfl rfl hdg k
  rw [c3, hK.2.2.1]
  exact k1
theorem g_newq (hexec : p.tables.exec = Jvm.exec) (hb : c.code = cc) {own : String} {index : Nat} (hown : s.vm.findClass own = some m.cls) (hclink : (Cond.classLink own index "java/lang/Object").before args s = true) (hK : gK D cy s) (hW : gW D B0 H0 f H locs) (i : Nat) {n : Int32} {N' : Nat} (hn : ¬ n < 0) (hN : n.toNatClampNeg = N') (hbytes : N' * 4 ≤ 536870912) (hcells : cells + 1 ≤ R.cells) (hslots : slots + N' ≤ R.slots) (hdg : decode cc pc = .ok (.anewarray index, 3))
    (kk : ∀ (q : Nat) (H1 : Heap), gW D B0 H0 (gup f i q (cO cy N' (fun _ => none))) H1 locs → (∀ (j : Nat) (r : Nat × va_E), f j = some r → r.1 ≠ q) → W p l e R s m args below meth c H1 locs (cells + 1) (slots + N') Q (F0 m (pc + 3) ls (.ref q :: rest))) : W p l e R s m args below meth c H locs cells slots Q (F0 m pc ls (.int n :: rest)) := by
  subst hN
  refine W.anew hexec hb hown hclink (va_AO.use hK.2.2.2.2.2.2.1) rfl hdg rfl hn hbytes hcells hslots fun cA kA comp f1 f2 f3 f4 => ?_
  have hcA : cA = cy 3 := by
    obtain ⟨_, _, _, _, _, h4⟩ := (hK.1.2 3 _ rfl).2
    exact Option.some.inj (f1.symm.trans h4)
  subst hcA
  generalize hH1 : H.push ({ cls := cy 3, slots := Array.replicate n.toNatClampNeg .null, vm := .none } : Cell) = H1
  have z1 : H1.size = H.size + 1 := by rw [← hH1, Array.size_push]
  have e1 : H1[H.size]? = some (arrV (cy 3) n.toNatClampNeg (fun _ => .null)) := by rw [← hH1, Array.getElem?_push_size, ← arrV_new]
  have o1 : ∀ q : Nat, q < H.size → H1[q]? = H[q]? := fun q hq => by rw [← hH1, Array.getElem?_push, if_neg (Nat.ne_of_lt hq)]
  refine kk H.size H1 ⟨hW.1.new i (show H1[H.size]? = some (vp_cell _ _) from e1) (Nat.le_trans hW.2.2.1 hW.2.1.1) o1, ⟨Nat.le_trans hW.2.1.1 (by omega), fun x h1 h2 => (o1 x (Nat.lt_of_lt_of_le h1 hW.2.1.1)).trans (hW.2.1.2.1 x h1 h2), hW.2.1.2.2⟩, hW.2.2⟩ (fun j r hj hr => ?_)
  have h5 := (hW.1.1 j r hj).1.lt
  omega
theorem g_astq (hexec : p.tables.exec = Jvm.exec) (hb : c.code = cc) (hK : gK D cy s) (hW : gW D B0 H0 f H locs) (i k : Nat) {ci n v : Nat} {C : String} {T : u_T} {N : Nat} {vs : List Value} {g : Nat → Option Nat} (he : f i = some (a, cO cy n g)) (hv : f k = some (v, .inr (ci, vs))) (hc : vwCl[ci]? = some (C, T, N)) (hca : va_Nw (.castable C "java/lang/Object") s) {j : Int32} (hin : vp_in j n) (hdg : decode cc pc = .ok (.aastore, 1))
    (kk : ∀ (H1 : Heap) (locs1 : List Loc), gW D B0 H0 (gup f i a (cO cy n (va_up g j.toNatClampNeg (some v)))) H1 locs1 → W p l e R s m args below meth c H1 locs1 cells slots Q (F0 m (pc + 1) ls rest)) : W p l e R s m args below meth c H locs cells slots Q (F0 m pc ls (.ref v :: .int j :: .ref a :: rest)) := by
  have hlt : j.toNatClampNeg < n := Nat.not_le.mp fun q => hin (Or.inr q)
  have h0 : ¬ j < 0 := fun q => hin (Or.inl q)
  obtain ⟨r', hr', cellV, g1, g2, g3, -⟩ := (hW.1.1 k _ hv).1
  have hrr : r' = (C, T, N) := Option.some.inj (hr'.symm.trans hc)
  subst hrr
  have hcls := (hK.1.1 ci _ hc).2
  obtain ⟨kA, comp, k1, k2, k3, -⟩ := (hK.1.2 3 _ rfl).2
  obtain ⟨kE, hkE, -⟩ := Vm.findClass_spec k3
  obtain ⟨c0, t1, f1, f2, f3⟩ := Cond.castable_spec (va_Nw.use (A := args) rfl hca)
  cases hcls.1.symm.trans f1
  cases k3.symm.trans f2
  obtain ⟨kC, hkC, -⟩ := hcls.2
  refine W.aast hexec hb (hW.1.1 i _ he).1 (fun q h => by cases h) (fun h => by cases h) k1 k2 rfl hkE ⟨h0, by show _ < (arrV _ _ _).slots.size; rw [arrV_size]; exact hlt⟩ g1 (fun q h => by rw [g3] at h; cases h) (by rw [g2]; exact hkC) (by rw [g2]; exact f3) rfl rfl hdg fun H1 e z oq => ?_
  refine kk H1 _ ⟨hW.1.set he ?_ oq, hW.2.1.put z oq (hW.1.1 i _ he).2, hW.2.2⟩
  show H1[a]? = some (vp_cell _ _)
  rw [e]
  rw [vp_cell_q, vp_cell_q, arrV_store]
  congr 2
  funext q
  by_cases hq : q = j.toNatClampNeg
  · subst hq
    simp [updV, va_up, va_rf]
  · simp [updV, va_up, hq]
theorem g_copyq (hexec : p.tables.exec = Jvm.exec) (hb : c.code = cc) (hml : c.maxLocals = ls.size) {own : String} {index : Nat} (hown : s.vm.findClass own = some m.cls) (hlink : (Cond.methodLink own index arraycopyName).before args s = true) (hnat : (Cond.native arraycopyName).before args s = true) (hstat : (Cond.static arraycopyName).before args s = true) (hini : (Cond.initialized "java/lang/System").before args s = true)
    (hK : gK D cy s) (hW : gW D B0 s f H []) (i j : Nat) (hij : i ≠ j) {a0 n0 n1 : Nat} {g0 g1 : Nat → Option Nat} (hi : f i = some (a0, cO cy n0 g0)) (hj : f j = some (a, cO cy n1 g1)) {n : Int32} (h3 : ¬ n < 0) (h4 : n.toNatClampNeg ≤ n0) (h5 : n.toNatClampNeg ≤ n1) {ci N : Nat} {C : String} {T : u_T} (hc : vwCl[ci]? = some (C, T, N)) (hca : va_Nw (.castable C "java/lang/Object") s) (hel : ∀ (x y : Nat), g0 x = some y → ∃ (k : Nat) (vs : List Value), f k = some (y, .inr (ci, vs)))
    (hframes : 1 ≤ R.frames) (hlocals : (rest.map fun v => v.category).sum + (nativeFrameWords "java/lang/System" "arraycopy" 5 + 11) ≤ R.locals) (hdg : decode cc pc = .ok (.invokestatic index, 3))
    (kk : ∀ (H1 : Heap) (locs1 : List Loc), gW D B0 s (gup f j a (cO cy n1 (va_cpy g0 g1 0 0 n.toNatClampNeg))) H1 locs1 → W p l e R s m args below meth c H1 locs1 cells slots Q (F0 m (pc + 3) ls rest)) : W p l e R s m args below meth c H [] cells slots Q (F0 m pc ls (.int n :: .int 0 :: .ref a :: .int 0 :: .ref a0 :: rest)) := by
  have hne : a0 ≠ a := fun e => hij (hW.1.2 i j _ _ hi hj e)
  have hP : va_P D vwCl [(a0, cO cy n0 g0), (a, cO cy n1 g1)] H := by
    intro k q hk
    match k, hk with
    | 0, hk => cases hk; exact (hW.1.1 i _ hi).1
    | 1, hk => cases hk; exact (hW.1.1 j _ hj).1
  have hD : va_D (fun q : Nat => q = a ∨ q = a0) [(a0, cO cy n0 g0), (a, cO cy n1 g1)] := by
    refine ⟨?_, ?_⟩
    · intro x y p q hx hy e
      match x, y, hx, hy with
      | 0, 0, _, _ => rfl
      | 1, 1, _, _ => rfl
      | 0, 1, hx, hy => cases hx; cases hy; exact absurd e hne
      | 1, 0, hx, hy => cases hx; cases hy; exact absurd e.symm hne
    · intro k q hk
      match k, hk with
      | 0, hk => cases hk; exact Or.inr rfl
      | 1, hk => cases hk; exact Or.inl rfl
  have z0 : (0 : Int32).toNatClampNeg = 0 := by decide
  refine va_copyq (A := fun q : Nat => q = a ∨ q = a0) (H0 := H) (C := C) hexec hb hml hown hlink hnat hstat hini hK.1 hP hD va_S.rf 0 1 3 3 rfl rfl rfl rfl (by decide) (by decide) h3 (by rw [z0]; omega) (by rw [z0]; omega) (fun x _ y hy => ?_) (fun comp c0 hE hC => ?_) hframes hlocals hdg (fun H1 locs1 hP1 _ hS1 => kk H1 locs1 ⟨hW.1.set2 hj ?_ (fun k q hk hqa => ?_), ⟨Nat.le_trans hW.2.1.1 hS1.1, fun q h1 h2 => ?_, fun z hz => ?_⟩, hW.2.2⟩)
  · rw [z0, Nat.zero_add] at hy
    obtain ⟨k, vs, hk⟩ := hel x y hy
    obtain ⟨r', hr', cellV, g1, g2, g3, -⟩ := (hW.1.1 k _ hk).1
    have hrr : r' = (C, T, N) := Option.some.inj (hr'.symm.trans hc)
    subst hrr
    exact ⟨cellV, g1, by rw [g3]; rfl, by rw [g2]; exact (hK.1.1 ci _ hc).2.1⟩
  · obtain ⟨c1, t1, f1, f2, f3⟩ := Cond.castable_spec (va_Nw.use (A := args) rfl hca)
    cases hC.symm.trans f1
    cases hE.symm.trans f2
    exact f3
  · have h := hP1 1 _ rfl
    rw [z0] at h
    exact h
  · by_cases e0 : q.1 = a0
    · have hki : k = i := hW.1.2 k i q _ hk hi e0
      subst hki
      rw [hi] at hk
      cases hk
      exact hP1 0 _ rfl
    · have h0 := hW.1.1 k q hk
      exact h0.1.kept (hS1.2.1 q.1 h0.1.lt (fun e => e.elim hqa e0))
  · have h6 : q ≠ a := fun e => h2 (by rw [e]; exact (hW.1.1 j _ hj).2)
    have h7 : q ≠ a0 := fun e => h2 (by rw [e]; exact (hW.1.1 i _ hi).2)
    exact (hS1.2.1 q (Nat.lt_of_lt_of_le h1 hW.2.1.1) (fun e => e.elim h6 h7)).trans (hW.2.1.2.1 q h1 h2)
  · rcases hS1.2.2 z hz with h | h
    · rw [h]; exact (hW.1.1 j _ hj).2
    · rw [h]; exact (hW.1.1 i _ hi).2
/-- the start of a method that has written nothing yet -/
theorem g_start0 {y : MethodName} {ws ws' : List Cond} {fr lo mc ms : Nat} {av : List Value} {post : Option Value → gF → Prop} {maxL : Nat} {ret : Option FieldType} (hy : plainName y.cls = true) (hw : ws = Cond.code y cc maxL ret :: ws') (hlen : (lg_sl av).length ≤ maxL)
    (body : ∀ (p : Program) (e : Env) (s : State) (m : MethodId) (below : List Frame) (meth : Method) (c : Code) (ls : Array Slot) (H : Heap), CallFix p m c cc maxL s av.toArray ws y.cls → meth.sig.returnType = ret → meth.locks = false → meth.name = y.name → gK D cy s → gW D B0 s f H [] → lv_has ls maxL (lv_args 0 av) →
      W p l e { frames := fr, cells := mc, slots := ms, locals := lo } s m av.toArray below meth c H [] 0 0 (MQ below (gQ D B0 post) av.toArray s mc ms (fun q : Nat => B0 ≤ q)) (F0 m 0 ls [])) : gM l y ws fr lo D cy B0 av f post mc ms := by
  refine Met.ofW (cc := cc) (maxL := maxL) (ret := ret) hy hw ?_
  intro p e s m args below meth c s₁ B hml hv
  obtain ⟨rfl, hB0, hK, hP, hZ⟩ := hv
  have hts := atoms_spec (ws := ws) B.pre
  have hown : s.vm.findClass y.cls = some m.cls := findClass_of_methodNamed B.named
  rw [lg_entry_eq]
  exact body p e s m below meth c _ s.heap ⟨B.exec, B.bytes, hml, hown, hts⟩ B.returns B.notSynchronized (name_of_methodNamed B.named B.method).1 hK ⟨hP, va_S.rf, hB0, hZ⟩ (lv_entry av hlen)
end GQ
