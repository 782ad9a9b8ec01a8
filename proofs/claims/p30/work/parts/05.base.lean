/-! numbers: an int is iI z, z an Int; a boolean is 0 or 1 -/
def iI (z : Int) : Int32 := Int32.ofInt z
abbrev rI (z : Int) : Prop := -2147483648 ≤ z ∧ z ≤ 2147483647
def bI (b : Bool) : Int := if b then 1 else 0
theorem iI_add (a b : Int) : iI a + iI b = iI (a + b) := (Int32.ofInt_add a b).symm
theorem iI_sub (a b : Int) : iI a - iI b = iI (a - b) := (Int32.ofInt_sub a b).symm
theorem iI_mul (a b : Int) : iI a * iI b = iI (a * b) := (Int32.ofInt_mul a b).symm
theorem iI_neg (a : Int) : -iI a = iI (-a) := (Int32.ofInt_neg a).symm
theorem iI_toInt {z : Int} (h : rI z) : (iI z).toInt = z := Int32.toInt_ofInt_of_le (by have := h.1; omega) (by have := h.2; omega)
theorem iI_self (x : Int32) : iI x.toInt = x := Int32.ofInt_toInt x
theorem rI_toInt (x : Int32) : rI x.toInt := ⟨by have := x.le_toInt; omega, by have := x.toInt_lt; omega⟩
theorem iI_ex (x : Int32) : ∃ z : Int, rI z ∧ x = iI z := ⟨x.toInt, rI_toInt x, (iI_self x).symm⟩
theorem iI_clamp {z : Int} (h : rI z) : (iI z).toNatClampNeg = z.toNat := by
  show (iI z).toInt.toNat = z.toNat
  rw [iI_toInt h]
theorem iI_eq {x y : Int} (hx : rI x) (hy : rI y) : iI x = iI y ↔ x = y := by
  constructor
  · intro h
    have h2 : (iI x).toInt = (iI y).toInt := by rw [h]
    rwa [iI_toInt hx, iI_toInt hy] at h2
  · intro h
    rw [h]
theorem iI_lt {x y : Int} (hx : rI x) (hy : rI y) : iI x < iI y ↔ x < y := by
  rw [Int32.lt_iff_toInt_lt, iI_toInt hx, iI_toInt hy]
theorem iI_le {x y : Int} (hx : rI x) (hy : rI y) : iI x ≤ iI y ↔ x ≤ y := by
  rw [Int32.le_iff_toInt_le, iI_toInt hx, iI_toInt hy]
theorem iI_0 : iI 0 = 0 := rfl
theorem rI_0 : rI 0 := ⟨by decide, by decide⟩
theorem iI_nI (n : Nat) : nI n = iI (n : Int) := rfl
theorem iI_in {z : Int} {n : Nat} (h0 : 0 ≤ z) (h1 : z < n) (hn : n ≤ 2147483648) : vp_in (iI z) n := by
  rw [vp_in_iff, iI_toInt ⟨by omega, by omega⟩]
  exact ⟨h0, h1⟩
theorem iI_out {z : Int} {n : Nat} (h : rI z) (h1 : z < 0 ∨ (n : Int) ≤ z) : ¬ vp_in (iI z) n := by
  rw [vp_in_iff, iI_toInt h]
  omega
theorem iI_64 {z : Int} (h : rI z) : (iI z).toInt64 = Int64.ofInt z := Int32.toInt64_ofInt (by have := h.1; exact this) (by have := h.2; exact this)
theorem iI_of64 (z : Int) : (Int64.ofInt z).toInt32 = iI z := Int64.toInt32_ofInt
theorem iI_divmod {x y : Int} (h0 : 0 ≤ x) (h1 : x < 2147483648) (hy : 0 < y) (hy1 : y < 2147483648) : iI x / iI y = iI (x / y) ∧ iI x - iI x / iI y * iI y = iI (x % y) := by
  have hd : iI x / iI y = iI (x / y) := by
    apply Int32.toInt_inj.mp
    have hne : iI x ≠ Int32.minValue := by
      intro h
      have h2 := congrArg Int32.toInt h
      rw [iI_toInt ⟨by omega, by omega⟩] at h2
      have h3 : Int32.minValue.toInt = -2147483648 := by decide
      omega
    rw [Int32.toInt_div_of_ne_left _ _ hne, iI_toInt ⟨by omega, by omega⟩, iI_toInt ⟨by omega, by omega⟩]
    have h4 : 0 ≤ x / y := Int.ediv_nonneg h0 (by omega)
    have h5 : x / y ≤ x := Int.ediv_le_self y h0
    rw [iI_toInt ⟨by omega, by omega⟩]
    exact Int.tdiv_eq_ediv_of_nonneg h0
  refine ⟨hd, ?_⟩
  rw [hd, iI_mul, iI_sub]
  congr 1
  have := Int.emod_def x y
  rw [this, Int.mul_comm]
theorem iI_nar (b : Int) (h : b = 0 ∨ b = 1) : vp_nar .boolean (iI b) = iI b := by
  rcases h with rfl | rfl <;> decide
theorem bI_01 (b : Bool) : bI b = 0 ∨ bI b = 1 := by cases b <;> simp [bI]
theorem bI_r (b : Bool) : rI (bI b) := by cases b <;> exact ⟨by decide, by decide⟩
theorem bI_0 (b : Bool) : bI b = 0 ↔ b = false := by cases b <;> simp [bI]
theorem bI_1 (b : Bool) : bI b = 1 ↔ b = true := by cases b <;> simp [bI]
theorem bI_t {b : Bool} (h : b = true) : (1 : Int) = bI b := by rw [h]; rfl
theorem bI_f {b : Bool} (h : b = false) : (0 : Int) = bI b := by rw [h]; rfl
theorem iI_narz {z : Int} (h : z = 0 ∨ z = 1) : narrow .boolean (.int (iI z)) = .int (iI z) := by
  rcases h with rfl | rfl <;> decide
theorem iI_fitz {z : Int} (h : z = 0 ∨ z = 1) : fits .boolean (.int (iI z)) = true := by
  rcases h with rfl | rfl <;> decide

section GX
variable {p : Program} {l : Launch} {e : Env} {R : Room} {s : State} {m : MethodId} {args : Array Value} {below : List Frame} {meth : Method} {c : Code} {H : Heap} {locs : List Loc} {cells slots : Nat} {Q : State → Prop}
variable {cc : ByteArray} {pc : Nat} {ls : Array Slot} {rest : List Value}
theorem xi_iconst (hexec : p.tables.exec = Jvm.exec) (hb : c.code = cc) {n : Int} (hdg : decode cc pc = .ok (.iconst n, 1))
    (k : W p l e R s m args below meth c H locs cells slots Q (F0 m (pc + 1) ls (.int (iI n) :: rest))) : W p l e R s m args below meth c H locs cells slots Q (F0 m (pc) ls (rest)) := lv_iconst hexec hb hdg rfl k
theorem xi_bipush (hexec : p.tables.exec = Jvm.exec) (hb : c.code = cc) {n : Int} (hdg : decode cc pc = .ok (.bipush n, 2)) (hv : (Int8.ofInt n).toInt32 = iI n)
    (k : W p l e R s m args below meth c H locs cells slots Q (F0 m (pc + 2) ls (.int (iI n) :: rest))) : W p l e R s m args below meth c H locs cells slots Q (F0 m (pc) ls (rest)) := lv_bipush hexec hb hdg hv k
theorem xi_sipush (hexec : p.tables.exec = Jvm.exec) (hb : c.code = cc) {n : Int} (hdg : decode cc pc = .ok (.sipush n, 3)) (hv : (Int16.ofInt n).toInt32 = iI n)
    (k : W p l e R s m args below meth c H locs cells slots Q (F0 m (pc + 3) ls (.int (iI n) :: rest))) : W p l e R s m args below meth c H locs cells slots Q (F0 m (pc) ls (rest)) := lv_sipush hexec hb hdg hv k
theorem xi_ldc (hexec : p.tables.exec = Jvm.exec) (hb : c.code = cc) {own : String} {index : Nat} {v : Int32} (n : Int) (hv : v = iI n) (hown : s.vm.findClass own = some m.cls) (hconst : (Jvm.Cond.constant own index v).before args s = true) (hdg : decode cc pc = .ok (.ldc index, 2))
    (k : W p l e R s m args below meth c H locs cells slots Q (F0 m (pc + 2) ls (.int (iI n) :: rest))) : W p l e R s m args below meth c H locs cells slots Q (F0 m (pc) ls (rest)) := lv_ldc hexec hb hown hconst hdg (hv ▸ k)
theorem xi_ldcw (hexec : p.tables.exec = Jvm.exec) (hb : c.code = cc) {own : String} {index : Nat} {v : Int32} (n : Int) (hv : v = iI n) (hown : s.vm.findClass own = some m.cls) (hconst : (Jvm.Cond.constant own index v).before args s = true) (hdg : decode cc pc = .ok (.ldc_w index, 3))
    (k : W p l e R s m args below meth c H locs cells slots Q (F0 m (pc + 3) ls (.int (iI n) :: rest))) : W p l e R s m args below meth c H locs cells slots Q (F0 m (pc) ls (rest)) := lv_ldcw hexec hb hown hconst hdg (hv ▸ k)
theorem xi_iadd (hexec : p.tables.exec = Jvm.exec) (hb : c.code = cc) {x y : Int} (hdg : decode cc pc = .ok (.iadd, 1))
    (k : W p l e R s m args below meth c H locs cells slots Q (F0 m (pc + 1) ls (.int (iI (x + y)) :: rest))) : W p l e R s m args below meth c H locs cells slots Q (F0 m (pc) ls (.int (iI y) :: .int (iI x) :: rest)) := lv_iadd hexec hb hdg (by rw [iI_add]; exact k)
theorem xi_isub (hexec : p.tables.exec = Jvm.exec) (hb : c.code = cc) {x y : Int} (hdg : decode cc pc = .ok (.isub, 1))
    (k : W p l e R s m args below meth c H locs cells slots Q (F0 m (pc + 1) ls (.int (iI (x - y)) :: rest))) : W p l e R s m args below meth c H locs cells slots Q (F0 m (pc) ls (.int (iI y) :: .int (iI x) :: rest)) := lv_isub hexec hb hdg (by rw [iI_sub]; exact k)
theorem xi_imul (hexec : p.tables.exec = Jvm.exec) (hb : c.code = cc) {x y : Int} (hdg : decode cc pc = .ok (.imul, 1))
    (k : W p l e R s m args below meth c H locs cells slots Q (F0 m (pc + 1) ls (.int (iI (x * y)) :: rest))) : W p l e R s m args below meth c H locs cells slots Q (F0 m (pc) ls (.int (iI y) :: .int (iI x) :: rest)) := lv_imul hexec hb hdg (by rw [iI_mul]; exact k)
theorem xi_ineg (hexec : p.tables.exec = Jvm.exec) (hb : c.code = cc) {x : Int} (hdg : decode cc pc = .ok (.ineg, 1))
    (k : W p l e R s m args below meth c H locs cells slots Q (F0 m (pc + 1) ls (.int (iI (-x)) :: rest))) : W p l e R s m args below meth c H locs cells slots Q (F0 m (pc) ls (.int (iI x) :: rest)) := lv_ineg hexec hb hdg (by rw [iI_neg]; exact k)
theorem xi_idiv (hexec : p.tables.exec = Jvm.exec) (hb : c.code = cc) {x y : Int} (h0 : 0 ≤ x ∧ x < 2147483648) (hy : 0 < y ∧ y < 2147483648) (hdg : decode cc pc = .ok (.idiv, 1))
    (k : W p l e R s m args below meth c H locs cells slots Q (F0 m (pc + 1) ls (.int (iI (x / y)) :: rest))) : W p l e R s m args below meth c H locs cells slots Q (F0 m (pc) ls (.int (iI y) :: .int (iI x) :: rest)) := lv_idiv hexec hb hdg (fun h => by have := (iI_eq (x := y) (y := 0) ⟨by omega, by omega⟩ rI_0).mp h; omega) (by rw [(iI_divmod h0.1 h0.2 hy.1 hy.2).1]; exact k)
theorem xi_irem (hexec : p.tables.exec = Jvm.exec) (hb : c.code = cc) {x y : Int} (h0 : 0 ≤ x ∧ x < 2147483648) (hy : 0 < y ∧ y < 2147483648) (hdg : decode cc pc = .ok (.irem, 1))
    (k : W p l e R s m args below meth c H locs cells slots Q (F0 m (pc + 1) ls (.int (iI (x % y)) :: rest))) : W p l e R s m args below meth c H locs cells slots Q (F0 m (pc) ls (.int (iI y) :: .int (iI x) :: rest)) := lv_irem hexec hb hdg (fun h => by have := (iI_eq (x := y) (y := 0) ⟨by omega, by omega⟩ rI_0).mp h; omega) (by rw [(iI_divmod h0.1 h0.2 hy.1 hy.2).2]; exact k)
theorem xi_i2l (hexec : p.tables.exec = Jvm.exec) (hb : c.code = cc) {x : Int} (hx : rI x) (hdg : decode cc pc = .ok (.i2l, 1))
    (k : W p l e R s m args below meth c H locs cells slots Q (F0 m (pc + 1) ls (.long (Int64.ofInt x) :: rest))) : W p l e R s m args below meth c H locs cells slots Q (F0 m (pc) ls (.int (iI x) :: rest)) := lv_i2l hexec hb hdg (iI_64 hx) k
theorem xi_l2i (hexec : p.tables.exec = Jvm.exec) (hb : c.code = cc) {x : Int} (hdg : decode cc pc = .ok (.l2i, 1))
    (k : W p l e R s m args below meth c H locs cells slots Q (F0 m (pc + 1) ls (.int (iI x) :: rest))) : W p l e R s m args below meth c H locs cells slots Q (F0 m (pc) ls (.long (Int64.ofInt x) :: rest)) := lv_l2i hexec hb hdg (iI_of64 x) k
theorem xi_iinc (hexec : p.tables.exec = Jvm.exec) (hb : c.code = cc) {i nL k : Nat} {n x : Int} {lv lv' : List (Nat × Value)} (hdg : decode cc pc = .ok (.iinc i n, 3)) (h : lv_has ls nL lv) (hk : lv[k]? = some (i, .int (iI x))) (hn : i < nL) (hl : (i, Value.int (iI (x + n))) :: lv.filter (fun q => !(q.1 == i) && !(q.1 + 1 == i && q.2.category == 2)) = lv')
    (kk : ∀ ls' : Array Slot, lv_has ls' nL lv' → W p l e R s m args below meth c H locs cells slots Q (F0 m (pc + 3) ls' (rest))) : W p l e R s m args below meth c H locs cells slots Q (F0 m (pc) ls (rest)) := lv_iinc hexec hb hdg h hk (iI_add x n) hn hl kk
theorem xi_icmp_eq (hexec : p.tables.exec = Jvm.exec) (hb : c.code = cc) {x y : Int} {off : Int} {tgt : Nat} (hx : rI x) (hy : rI y) (hdg : decode cc pc = .ok (.if_icmp .eq off, 3)) (ht : (pc : Int) + off = (tgt : Int))
    (kt : x = y → W p l e R s m args below meth c H locs cells slots Q (F0 m (tgt) ls (rest))) (kf : ¬ x = y → W p l e R s m args below meth c H locs cells slots Q (F0 m (pc + 3) ls (rest))) : W p l e R s m args below meth c H locs cells slots Q (F0 m (pc) ls (.int (iI y) :: .int (iI x) :: rest)) := lv_icmp_eq hexec hb hdg ht (fun h => kt ((iI_eq hx hy).mp h)) (fun h => kf (fun q => h ((iI_eq hx hy).mpr q)))
theorem xi_icmp_ne (hexec : p.tables.exec = Jvm.exec) (hb : c.code = cc) {x y : Int} {off : Int} {tgt : Nat} (hx : rI x) (hy : rI y) (hdg : decode cc pc = .ok (.if_icmp .ne off, 3)) (ht : (pc : Int) + off = (tgt : Int))
    (kt : ¬ x = y → W p l e R s m args below meth c H locs cells slots Q (F0 m (tgt) ls (rest))) (kf : x = y → W p l e R s m args below meth c H locs cells slots Q (F0 m (pc + 3) ls (rest))) : W p l e R s m args below meth c H locs cells slots Q (F0 m (pc) ls (.int (iI y) :: .int (iI x) :: rest)) := lv_icmp_ne hexec hb hdg ht (fun h => kt (fun q => h ((iI_eq hx hy).mpr q))) (fun h => kf ((iI_eq hx hy).mp h))
theorem xi_icmp_lt (hexec : p.tables.exec = Jvm.exec) (hb : c.code = cc) {x y : Int} {off : Int} {tgt : Nat} (hx : rI x) (hy : rI y) (hdg : decode cc pc = .ok (.if_icmp .lt off, 3)) (ht : (pc : Int) + off = (tgt : Int))
    (kt : x < y → W p l e R s m args below meth c H locs cells slots Q (F0 m (tgt) ls (rest))) (kf : y ≤ x → W p l e R s m args below meth c H locs cells slots Q (F0 m (pc + 3) ls (rest))) : W p l e R s m args below meth c H locs cells slots Q (F0 m (pc) ls (.int (iI y) :: .int (iI x) :: rest)) := lv_icmp_lt hexec hb hdg ht (fun h => kt ((iI_lt hx hy).mp h)) (fun h => kf (by have h2 := mt (iI_lt hx hy).mpr h; omega))
theorem xi_icmp_ge (hexec : p.tables.exec = Jvm.exec) (hb : c.code = cc) {x y : Int} {off : Int} {tgt : Nat} (hx : rI x) (hy : rI y) (hdg : decode cc pc = .ok (.if_icmp .ge off, 3)) (ht : (pc : Int) + off = (tgt : Int))
    (kt : y ≤ x → W p l e R s m args below meth c H locs cells slots Q (F0 m (tgt) ls (rest))) (kf : x < y → W p l e R s m args below meth c H locs cells slots Q (F0 m (pc + 3) ls (rest))) : W p l e R s m args below meth c H locs cells slots Q (F0 m (pc) ls (.int (iI y) :: .int (iI x) :: rest)) := lv_icmp_ge hexec hb hdg ht (fun h => kt ((iI_le hy hx).mp h)) (fun h => kf (by have h2 := mt (iI_le hy hx).mpr h; omega))
theorem xi_icmp_gt (hexec : p.tables.exec = Jvm.exec) (hb : c.code = cc) {x y : Int} {off : Int} {tgt : Nat} (hx : rI x) (hy : rI y) (hdg : decode cc pc = .ok (.if_icmp .gt off, 3)) (ht : (pc : Int) + off = (tgt : Int))
    (kt : y < x → W p l e R s m args below meth c H locs cells slots Q (F0 m (tgt) ls (rest))) (kf : x ≤ y → W p l e R s m args below meth c H locs cells slots Q (F0 m (pc + 3) ls (rest))) : W p l e R s m args below meth c H locs cells slots Q (F0 m (pc) ls (.int (iI y) :: .int (iI x) :: rest)) := lv_icmp_gt hexec hb hdg ht (fun h => kt ((iI_lt hy hx).mp h)) (fun h => kf (by have h2 := mt (iI_lt hy hx).mpr h; omega))
theorem xi_icmp_le (hexec : p.tables.exec = Jvm.exec) (hb : c.code = cc) {x y : Int} {off : Int} {tgt : Nat} (hx : rI x) (hy : rI y) (hdg : decode cc pc = .ok (.if_icmp .le off, 3)) (ht : (pc : Int) + off = (tgt : Int))
    (kt : x ≤ y → W p l e R s m args below meth c H locs cells slots Q (F0 m (tgt) ls (rest))) (kf : y < x → W p l e R s m args below meth c H locs cells slots Q (F0 m (pc + 3) ls (rest))) : W p l e R s m args below meth c H locs cells slots Q (F0 m (pc) ls (.int (iI y) :: .int (iI x) :: rest)) := lv_icmp_le hexec hb hdg ht (fun h => kt ((iI_le hx hy).mp h)) (fun h => kf (by have h2 := mt (iI_le hx hy).mpr h; omega))
theorem xi_if_eq (hexec : p.tables.exec = Jvm.exec) (hb : c.code = cc) {x : Int} {off : Int} {tgt : Nat} (hx : rI x) (hdg : decode cc pc = .ok (.ifCond .eq off, 3)) (ht : (pc : Int) + off = (tgt : Int))
    (kt : x = 0 → W p l e R s m args below meth c H locs cells slots Q (F0 m (tgt) ls (rest))) (kf : ¬ x = 0 → W p l e R s m args below meth c H locs cells slots Q (F0 m (pc + 3) ls (rest))) : W p l e R s m args below meth c H locs cells slots Q (F0 m (pc) ls (.int (iI x) :: rest)) := lv_if_eq hexec hb hdg ht (fun h => kt ((iI_eq hx rI_0).mp h)) (fun h => kf (fun q => h ((iI_eq hx rI_0).mpr q)))
theorem xi_if_ne (hexec : p.tables.exec = Jvm.exec) (hb : c.code = cc) {x : Int} {off : Int} {tgt : Nat} (hx : rI x) (hdg : decode cc pc = .ok (.ifCond .ne off, 3)) (ht : (pc : Int) + off = (tgt : Int))
    (kt : ¬ x = 0 → W p l e R s m args below meth c H locs cells slots Q (F0 m (tgt) ls (rest))) (kf : x = 0 → W p l e R s m args below meth c H locs cells slots Q (F0 m (pc + 3) ls (rest))) : W p l e R s m args below meth c H locs cells slots Q (F0 m (pc) ls (.int (iI x) :: rest)) := lv_if_ne hexec hb hdg ht (fun h => kt (fun q => h ((iI_eq hx rI_0).mpr q))) (fun h => kf ((iI_eq hx rI_0).mp h))
theorem xi_if_lt (hexec : p.tables.exec = Jvm.exec) (hb : c.code = cc) {x : Int} {off : Int} {tgt : Nat} (hx : rI x) (hdg : decode cc pc = .ok (.ifCond .lt off, 3)) (ht : (pc : Int) + off = (tgt : Int))
    (kt : x < 0 → W p l e R s m args below meth c H locs cells slots Q (F0 m (tgt) ls (rest))) (kf : 0 ≤ x → W p l e R s m args below meth c H locs cells slots Q (F0 m (pc + 3) ls (rest))) : W p l e R s m args below meth c H locs cells slots Q (F0 m (pc) ls (.int (iI x) :: rest)) := lv_if_lt hexec hb hdg ht (fun h => kt ((iI_lt hx rI_0).mp h)) (fun h => kf (by have h2 := mt (iI_lt hx rI_0).mpr h; omega))
theorem xi_if_ge (hexec : p.tables.exec = Jvm.exec) (hb : c.code = cc) {x : Int} {off : Int} {tgt : Nat} (hx : rI x) (hdg : decode cc pc = .ok (.ifCond .ge off, 3)) (ht : (pc : Int) + off = (tgt : Int))
    (kt : 0 ≤ x → W p l e R s m args below meth c H locs cells slots Q (F0 m (tgt) ls (rest))) (kf : x < 0 → W p l e R s m args below meth c H locs cells slots Q (F0 m (pc + 3) ls (rest))) : W p l e R s m args below meth c H locs cells slots Q (F0 m (pc) ls (.int (iI x) :: rest)) := lv_if_ge hexec hb hdg ht (fun h => kt ((iI_le rI_0 hx).mp h)) (fun h => kf (by have h2 := mt (iI_le rI_0 hx).mpr h; omega))
theorem xi_if_gt (hexec : p.tables.exec = Jvm.exec) (hb : c.code = cc) {x : Int} {off : Int} {tgt : Nat} (hx : rI x) (hdg : decode cc pc = .ok (.ifCond .gt off, 3)) (ht : (pc : Int) + off = (tgt : Int))
    (kt : 0 < x → W p l e R s m args below meth c H locs cells slots Q (F0 m (tgt) ls (rest))) (kf : x ≤ 0 → W p l e R s m args below meth c H locs cells slots Q (F0 m (pc + 3) ls (rest))) : W p l e R s m args below meth c H locs cells slots Q (F0 m (pc) ls (.int (iI x) :: rest)) := lv_if_gt hexec hb hdg ht (fun h => kt ((iI_lt rI_0 hx).mp h)) (fun h => kf (by have h2 := mt (iI_lt rI_0 hx).mpr h; omega))
theorem xi_if_le (hexec : p.tables.exec = Jvm.exec) (hb : c.code = cc) {x : Int} {off : Int} {tgt : Nat} (hx : rI x) (hdg : decode cc pc = .ok (.ifCond .le off, 3)) (ht : (pc : Int) + off = (tgt : Int))
    (kt : x ≤ 0 → W p l e R s m args below meth c H locs cells slots Q (F0 m (tgt) ls (rest))) (kf : 0 < x → W p l e R s m args below meth c H locs cells slots Q (F0 m (pc + 3) ls (rest))) : W p l e R s m args below meth c H locs cells slots Q (F0 m (pc) ls (.int (iI x) :: rest)) := lv_if_le hexec hb hdg ht (fun h => kt ((iI_le hx rI_0).mp h)) (fun h => kf (by have h2 := mt (iI_le hx rI_0).mpr h; omega))
theorem xi_ifb_eq (hexec : p.tables.exec = Jvm.exec) (hb : c.code = cc) {b : Bool} {off : Int} {tgt : Nat} (hdg : decode cc pc = .ok (.ifCond .eq off, 3)) (ht : (pc : Int) + off = (tgt : Int))
    (kt : b = false → W p l e R s m args below meth c H locs cells slots Q (F0 m (tgt) ls (rest))) (kf : b = true → W p l e R s m args below meth c H locs cells slots Q (F0 m (pc + 3) ls (rest))) : W p l e R s m args below meth c H locs cells slots Q (F0 m (pc) ls (.int (iI (bI b)) :: rest)) := xi_if_eq hexec hb (bI_r b) hdg ht (fun h => kt ((bI_0 b).mp h)) (fun h => kf (by cases hb2 : b with | true => rfl | false => exact absurd ((bI_0 b).mpr hb2) h))
theorem xi_ifb_ne (hexec : p.tables.exec = Jvm.exec) (hb : c.code = cc) {b : Bool} {off : Int} {tgt : Nat} (hdg : decode cc pc = .ok (.ifCond .ne off, 3)) (ht : (pc : Int) + off = (tgt : Int))
    (kt : b = true → W p l e R s m args below meth c H locs cells slots Q (F0 m (tgt) ls (rest))) (kf : b = false → W p l e R s m args below meth c H locs cells slots Q (F0 m (pc + 3) ls (rest))) : W p l e R s m args below meth c H locs cells slots Q (F0 m (pc) ls (.int (iI (bI b)) :: rest)) := xi_if_ne hexec hb (bI_r b) hdg ht (fun h => kt (by cases hb2 : b with | true => rfl | false => exact absurd ((bI_0 b).mpr hb2) h)) (fun h => kf ((bI_0 b).mp h))
theorem xi_lcmp_eq (hexec : p.tables.exec = Jvm.exec) (hb : c.code = cc) {x y : Int64} {off : Int} {tgt : Nat} (hdl : decode cc pc = .ok (.lcmp, 1)) (hdg : decode cc (pc + 1) = .ok (.ifCond .eq off, 3)) (ht : ((pc + 1 : Nat) : Int) + off = (tgt : Int))
    (kt : x = y → W p l e R s m args below meth c H locs cells slots Q (F0 m (tgt) ls (rest))) (kf : ¬ x = y → W p l e R s m args below meth c H locs cells slots Q (F0 m (pc + 1 + 3) ls (rest))) : W p l e R s m args below meth c H locs cells slots Q (F0 m (pc) ls (.long y :: .long x :: rest)) := W.lcmp hexec hb hdl (lv_if_eq hexec hb hdg ht (fun h => kt ((lg_cmp_eq x y).mp h)) (fun h => kf (fun q => h ((lg_cmp_eq x y).mpr q))))
theorem xi_lcmp_ne (hexec : p.tables.exec = Jvm.exec) (hb : c.code = cc) {x y : Int64} {off : Int} {tgt : Nat} (hdl : decode cc pc = .ok (.lcmp, 1)) (hdg : decode cc (pc + 1) = .ok (.ifCond .ne off, 3)) (ht : ((pc + 1 : Nat) : Int) + off = (tgt : Int))
    (kt : ¬ x = y → W p l e R s m args below meth c H locs cells slots Q (F0 m (tgt) ls (rest))) (kf : x = y → W p l e R s m args below meth c H locs cells slots Q (F0 m (pc + 1 + 3) ls (rest))) : W p l e R s m args below meth c H locs cells slots Q (F0 m (pc) ls (.long y :: .long x :: rest)) := W.lcmp hexec hb hdl (lv_if_ne hexec hb hdg ht (fun h => kt (fun q => h ((lg_cmp_eq x y).mpr q))) (fun h => kf ((lg_cmp_eq x y).mp h)))
theorem xi_lcmp_lt (hexec : p.tables.exec = Jvm.exec) (hb : c.code = cc) {x y : Int64} {off : Int} {tgt : Nat} (hdl : decode cc pc = .ok (.lcmp, 1)) (hdg : decode cc (pc + 1) = .ok (.ifCond .lt off, 3)) (ht : ((pc + 1 : Nat) : Int) + off = (tgt : Int))
    (kt : x < y → W p l e R s m args below meth c H locs cells slots Q (F0 m (tgt) ls (rest))) (kf : ¬ x < y → W p l e R s m args below meth c H locs cells slots Q (F0 m (pc + 1 + 3) ls (rest))) : W p l e R s m args below meth c H locs cells slots Q (F0 m (pc) ls (.long y :: .long x :: rest)) := W.lcmp hexec hb hdl (lv_if_lt hexec hb hdg ht (fun h => kt ((lg_cmp_lt x y).mp h)) (fun h => kf (fun q => h ((lg_cmp_lt x y).mpr q))))
theorem xi_lcmp_ge (hexec : p.tables.exec = Jvm.exec) (hb : c.code = cc) {x y : Int64} {off : Int} {tgt : Nat} (hdl : decode cc pc = .ok (.lcmp, 1)) (hdg : decode cc (pc + 1) = .ok (.ifCond .ge off, 3)) (ht : ((pc + 1 : Nat) : Int) + off = (tgt : Int))
    (kt : ¬ x < y → W p l e R s m args below meth c H locs cells slots Q (F0 m (tgt) ls (rest))) (kf : x < y → W p l e R s m args below meth c H locs cells slots Q (F0 m (pc + 1 + 3) ls (rest))) : W p l e R s m args below meth c H locs cells slots Q (F0 m (pc) ls (.long y :: .long x :: rest)) := W.lcmp hexec hb hdl (lv_if_ge hexec hb hdg ht (fun h => kt (fun q => by have h1 := (lg_cmp_lt x y).mpr q; exact absurd h (by rw [Int32.le_iff_toInt_le]; rw [Int32.lt_iff_toInt_lt] at h1; omega))) (fun h => kf ((lg_cmp_lt x y).mp (by rw [Int32.lt_iff_toInt_lt]; rw [Int32.le_iff_toInt_le] at h; omega))))
theorem xi_lcmp_gt (hexec : p.tables.exec = Jvm.exec) (hb : c.code = cc) {x y : Int64} {off : Int} {tgt : Nat} (hdl : decode cc pc = .ok (.lcmp, 1)) (hdg : decode cc (pc + 1) = .ok (.ifCond .gt off, 3)) (ht : ((pc + 1 : Nat) : Int) + off = (tgt : Int))
    (kt : y < x → W p l e R s m args below meth c H locs cells slots Q (F0 m (tgt) ls (rest))) (kf : ¬ y < x → W p l e R s m args below meth c H locs cells slots Q (F0 m (pc + 1 + 3) ls (rest))) : W p l e R s m args below meth c H locs cells slots Q (F0 m (pc) ls (.long y :: .long x :: rest)) := W.lcmp hexec hb hdl (lv_if_gt hexec hb hdg ht (fun h => kt ((lg_cmp_gt x y).mp h)) (fun h => kf (fun q => h ((lg_cmp_gt x y).mpr q))))
theorem xi_lcmp_le (hexec : p.tables.exec = Jvm.exec) (hb : c.code = cc) {x y : Int64} {off : Int} {tgt : Nat} (hdl : decode cc pc = .ok (.lcmp, 1)) (hdg : decode cc (pc + 1) = .ok (.ifCond .le off, 3)) (ht : ((pc + 1 : Nat) : Int) + off = (tgt : Int))
    (kt : ¬ y < x → W p l e R s m args below meth c H locs cells slots Q (F0 m (tgt) ls (rest))) (kf : y < x → W p l e R s m args below meth c H locs cells slots Q (F0 m (pc + 1 + 3) ls (rest))) : W p l e R s m args below meth c H locs cells slots Q (F0 m (pc) ls (.long y :: .long x :: rest)) := W.lcmp hexec hb hdl (lv_if_le hexec hb hdg ht (fun h => kt (fun q => by have h1 := (lg_cmp_gt x y).mpr q; exact absurd h (by rw [Int32.le_iff_toInt_le]; rw [Int32.lt_iff_toInt_lt] at h1; omega))) (fun h => kf ((lg_cmp_gt x y).mp (by rw [Int32.lt_iff_toInt_lt]; rw [Int32.le_iff_toInt_le] at h; omega))))
/-- a goal at a point that many roads reach: the value on top gets a name -/
theorem xi_eq {z z' : Int} (h : z = z') (k : W p l e R s m args below meth c H locs cells slots Q (F0 m (pc) ls (.int (iI z') :: rest))) : W p l e R s m args below meth c H locs cells slots Q (F0 m (pc) ls (.int (iI z) :: rest)) := by
  rw [h]
  exact k
end GX

/-! families of cells: a world is a function from places to (address, cell) -/
def gT (cy : Nat → ClassId) : List (ClassId × FieldType) := [(cy 0, .int), (cy 1, .long), (cy 2, .int), (cy 3, .object "java/lang/Object")]
abbrev gF : Type := Nat → Option (Nat × va_E)
def gup (f : gF) (i : Nat) (a : Nat) (e : va_E) : gF := fun j => if j = i then some (a, e) else f j
theorem gup_s (f : gF) (i a : Nat) (e : va_E) : gup f i a e i = some (a, e) := by simp [gup]
theorem gup_n (f : gF) {i j : Nat} (a : Nat) (e : va_E) (h : j ≠ i) : gup f i a e j = f j := by simp [gup, h]
def gP (D : va_G) (B0 : Nat) (f : gF) (H : Heap) : Prop := (∀ (i : Nat) (q : Nat × va_E), f i = some q → va_at D vwCl q H ∧ B0 ≤ q.1) ∧ ∀ (i j : Nat) (q r : Nat × va_E), f i = some q → f j = some r → q.1 = r.1 → i = j
theorem gP.one {D : va_G} {B0 : Nat} {f : gF} {H : Heap} (h : gP D B0 f H) {i a : Nat} {e : va_E} (hi : f i = some (a, e)) : va_P D vwCl [(a, e)] H := by
  intro k q hk
  match k, hk with
  | 0, hk => cases hk; exact (h.1 i _ hi).1
  | k + 1, hk => simp at hk
theorem gP.set {D : va_G} {B0 : Nat} {f : gF} {H H1 : Heap} (h : gP D B0 f H) {i a : Nat} {e0 e : va_E} (hi : f i = some (a, e0)) (he : va_at D vwCl (a, e) H1) (oq : ∀ q : Nat, q ≠ a → H1[q]? = H[q]?) : gP D B0 (gup f i a e) H1 := by
  have key : ∀ (j : Nat) (q : Nat × va_E), gup f i a e j = some q → (j = i ∧ q = (a, e)) ∨ (j ≠ i ∧ f j = some q) := by
    intro j q hj
    by_cases hji : j = i
    · subst hji
      rw [gup_s] at hj
      exact Or.inl ⟨rfl, (Option.some.inj hj).symm⟩
    · rw [gup_n f a e hji] at hj
      exact Or.inr ⟨hji, hj⟩
  have addr : ∀ (j : Nat) (q : Nat × va_E), gup f i a e j = some q → ∃ q0, f j = some q0 ∧ q0.1 = q.1 := by
    intro j q hj
    rcases key j q hj with ⟨rfl, rfl⟩ | ⟨_, h2⟩
    · exact ⟨_, hi, rfl⟩
    · exact ⟨q, h2, rfl⟩
  refine ⟨fun j q hj => ?_, fun j k q r hj hk hqr => ?_⟩
  · rcases key j q hj with ⟨rfl, rfl⟩ | ⟨hne, h2⟩
    · exact ⟨he, (h.1 j _ hi).2⟩
    · exact ⟨((h.1 j q h2).1).kept (oq q.1 fun z => hne (h.2 j i q (a, e0) h2 hi z)), (h.1 j q h2).2⟩
  · obtain ⟨q0, h1, h2⟩ := addr j q hj
    obtain ⟨r0, h3, h4⟩ := addr k r hk
    exact h.2 j k q0 r0 h1 h3 (h2.trans (hqr.trans h4.symm))
theorem gP.new {D : va_G} {B0 : Nat} {f : gF} {H H1 : Heap} (h : gP D B0 f H) (i : Nat) {e : va_E} (he : va_at D vwCl (H.size, e) H1) (hB : B0 ≤ H.size) (oq : ∀ q : Nat, q < H.size → H1[q]? = H[q]?) : gP D B0 (gup f i H.size e) H1 := by
  have key : ∀ (j : Nat) (q : Nat × va_E), gup f i H.size e j = some q → (j = i ∧ q = (H.size, e)) ∨ (j ≠ i ∧ f j = some q) := by
    intro j q hj
    by_cases hji : j = i
    · subst hji
      rw [gup_s] at hj
      exact Or.inl ⟨rfl, (Option.some.inj hj).symm⟩
    · rw [gup_n f _ e hji] at hj
      exact Or.inr ⟨hji, hj⟩
  refine ⟨fun j q hj => ?_, fun j k q r hj hk hqr => ?_⟩
  · rcases key j q hj with ⟨rfl, rfl⟩ | ⟨hne, h2⟩
    · exact ⟨he, hB⟩
    · exact ⟨((h.1 j q h2).1).kept (oq q.1 (h.1 j q h2).1.lt), (h.1 j q h2).2⟩
  · rcases key j q hj with ⟨rfl, rfl⟩ | ⟨hne, h2⟩ <;> rcases key k r hk with ⟨rfl, rfl⟩ | ⟨hne', h3⟩
    · rfl
    · have h4 : r.1 < H.size := (h.1 k r h3).1.lt
      have h5 : H.size = r.1 := hqr
      omega
    · have h4 : q.1 < H.size := (h.1 j q h2).1.lt
      have h5 : q.1 = H.size := hqr
      omega
    · exact h.2 j k q r h2 h3 hqr
theorem gP.kept {D : va_G} {B0 : Nat} {f : gF} {H H1 : Heap} (h : gP D B0 f H) (oq : ∀ q : Nat, q < H.size → H1[q]? = H[q]?) : gP D B0 f H1 := ⟨fun i q hi => ⟨((h.1 i q hi).1).kept (oq q.1 (h.1 i q hi).1.lt), (h.1 i q hi).2⟩, h.2⟩
/-- fewer cells, or the same under other places -/
theorem gP.via {D : va_G} {B0 : Nat} {f g : gF} {H : Heap} (h : gP D B0 f H) (σ : Nat → Nat) (hσ : ∀ (i : Nat) (q : Nat × va_E), g i = some q → f (σ i) = some q) (hi : ∀ (i j : Nat) (q r : Nat × va_E), g i = some q → g j = some r → σ i = σ j → i = j) : gP D B0 g H :=
  ⟨fun i q hq => h.1 (σ i) q (hσ i q hq), fun i j q r hq hr e => hi i j q r hq hr (h.2 _ _ q r (hσ i q hq) (hσ j r hr) e)⟩
/-- what stands below our own cells, and stays: the empty row of ArrayList, Throwable's statics -/
def gZ (D : va_G) (B0 : Nat) (U : State) (H : Heap) : Prop := va_Z "java/util/ArrayList" "DEFAULTCAPACITY_EMPTY_ELEMENTDATA" "[Ljava/lang/Object;" (.ref (D.1 21)) (fun q : Nat => B0 ≤ q) U H ∧ (D.1 21 < B0 ∧ ∃ cell : Cell, H[D.1 21]? = some cell ∧ (∀ y, cell.vm ≠ .statics y) ∧ cell.cls = D.1 23 ∧ cell.slots.size = 0) ∧ vx_Zq Bundle.tN "UNASSIGNED_STACK" Bundle.steD (fun q : Nat => B0 ≤ q) U H ∧ vx_Zq Bundle.tN "SUPPRESSED_SENTINEL" Bundle.listD (fun q : Nat => B0 ≤ q) U H
theorem gZ.go {D : va_G} {B0 : Nat} {u U : State} {H H1 : Heap} (h : gZ D B0 u H) (hvm : u.vm.Alike U.vm) (hq : ∀ a : Nat, a < H.size → ¬ B0 ≤ a → H1[a]? = H[a]?) : gZ D B0 U H1 := by
  obtain ⟨h1, ⟨h2, cell, h3, h3a⟩, h4, h5⟩ := h
  exact ⟨va_Z.moved hvm (h1.kept hq), ⟨h2, cell, (hq _ (Array.getElem?_eq_some_iff.mp h3).1 (Nat.not_le.mpr h2)).trans h3, h3a⟩, vx_Zq.moved hvm (h4.kept hq), vx_Zq.moved hvm (h5.kept hq)⟩
def gW (D : va_G) (B0 : Nat) (H0 : State) (f : gF) (H : Heap) (locs : List Loc) : Prop := gP D B0 f H ∧ va_S (fun q : Nat => B0 ≤ q) H0.heap H locs ∧ B0 ≤ H0.heap.size ∧ gZ D B0 H0 H0.heap
/-- what every method of ours takes as given of the tables: the classes, the rows' classes, private members across the nest, what may stand in a row of Objects, the empty row of ArrayList -/
def gNs : List Cond := [.methodLinkNest "MillstreamPayments" 9 yX6_init "MillstreamPayments", .methodLinkNest "MillstreamPayments$Accounts" 11 yX3_init "MillstreamPayments", .methodLinkNest "MillstreamPayments$Accounts" 42 yX11_accountSlot "MillstreamPayments", .methodLinkNest "MillstreamPayments$Accounts" 84 yX11_pairSlot "MillstreamPayments", .methodLinkNest "MillstreamPayments$Batch" 63 yX11_accountSlot "MillstreamPayments", .methodLinkNest "MillstreamPayments$Batch" 74 yX11_pairSlot "MillstreamPayments", .methodLinkNest "MillstreamPayments$Exchange" 11 yX4_init "MillstreamPayments", .methodLinkNest "MillstreamPayments$Exchange" 34 yX1_init "MillstreamPayments", .methodLinkNest "MillstreamPayments$Exchange" 53 yX2_init "MillstreamPayments", .castable "MillstreamPayments$Entry" "java/lang/Object", .castable "MillstreamPayments$Payment" "java/lang/Object", .castable "java/lang/IndexOutOfBoundsException" "java/lang/IndexOutOfBoundsException", .castable "java/lang/IllegalArgumentException" "java/lang/IllegalArgumentException", .castable "java/lang/IllegalStateException" "java/lang/IllegalStateException", .declares ⟨"java/lang/RuntimeException", "<init>", "(Ljava/lang/String;)V"⟩, .declares ⟨"java/lang/Exception", "<init>", "(Ljava/lang/String;)V"⟩, .declares ⟨"java/lang/Throwable", "<init>", "(Ljava/lang/String;)V"⟩]
def gXc : List (String × String) := [("java/lang/IllegalArgumentException", "java/lang/IndexOutOfBoundsException"), ("java/lang/IllegalStateException", "java/lang/IndexOutOfBoundsException"), ("java/lang/IllegalStateException", "java/lang/IllegalArgumentException")]
def gSt : List (Nat × String) := [(215, "a place is from 0"), (228, "no such entry"), (250, "there is none of this number"), (254, "out of range"), (257, "the two banks are the same"), (261, "not as things stand"), (266, "no such payment")]
def gK (D : va_G) (cy : Nat → ClassId) (U : State) : Prop := va_K D vwCl (gT cy) U ∧ (∀ w ∈ gNs, va_Nw w U) ∧ D.1 23 = cy 3 ∧ (∀ x ∈ gSt, vk_R RX11 x.1 x.2 (D.1 (1000 + x.1)) U) ∧ va_Mi "[Ljava/lang/Object;" (D.1 24) U ∧ va_Dc U ∧ va_AO "java/lang/Object" U ∧ ∀ x ∈ gXc, va_Nc x.1 x.2 U
theorem gNs_warm {s U : State} (hW : s.WarmedH U.vm) (h : ∀ w ∈ gNs, va_Nw w s) : ∀ w ∈ gNs, va_Nw w U := by
  intro w hw
  have h1 := h w hw
  simp only [gNs, List.mem_cons, List.not_mem_nil, or_false] at hw
  rcases hw with rfl | rfl | rfl | rfl | rfl | rfl | rfl | rfl | rfl | rfl | rfl | rfl | rfl | rfl | rfl | rfl | rfl <;> first | exact va_Nw.warmM hW h1 | exact va_Nw.warmC hW h1 | exact va_Nw.warmD hW h1
theorem gNs_same {u U : State} (hv : u.vm = U.vm) (h : ∀ w ∈ gNs, va_Nw w u) : ∀ w ∈ gNs, va_Nw w U := by
  intro w hw
  have h1 := h w hw
  simp only [gNs, List.mem_cons, List.not_mem_nil, or_false] at hw
  rcases hw with rfl | rfl | rfl | rfl | rfl | rfl | rfl | rfl | rfl | rfl | rfl | rfl | rfl | rfl | rfl | rfl | rfl <;> exact va_Nw.same rfl hv h1
theorem gK.warm {D : va_G} {cy : Nat → ClassId} {s U : State} (hW : s.WarmedH U.vm) (h : gK D cy s) : gK D cy U := ⟨va_K.moved hW.alike h.1, gNs_warm hW h.2.1, h.2.2.1, fun x hx => vk_R.warm hW (h.2.2.2.1 x hx), h.2.2.2.2.1.moved hW.alike, h.2.2.2.2.2.1.moved hW.alike, h.2.2.2.2.2.2.1.moved hW.alike, fun x hx => va_Nc.moved hW.alike (h.2.2.2.2.2.2.2 x hx)⟩
theorem gK.calling {D : va_G} {cy : Nat → ClassId} {U : State} {g : JFrame} {mk : MethodId} {a : Array Value} (h : gK D cy U) : gK D cy (U.calling g mk a) := ⟨va_K.moved (u := U) (U := U.calling g mk a) (Vm.Alike.refl U.vm) h.1, gNs_same (u := U) (U := U.calling g mk a) rfl h.2.1, h.2.2.1, fun x hx => vk_R.same (u := U) (U := U.calling g mk a) rfl (h.2.2.2.1 x hx), va_Mi.moved (u := U) (U := U.calling g mk a) (Vm.Alike.refl U.vm) h.2.2.2.2.1, va_Dc.moved (u := U) (U := U.calling g mk a) (Vm.Alike.refl U.vm) h.2.2.2.2.2.1, va_AO.moved (u := U) (U := U.calling g mk a) (Vm.Alike.refl U.vm) h.2.2.2.2.2.2.1, fun x hx => va_Nc.moved (u := U) (U := U.calling g mk a) (Vm.Alike.refl U.vm) (h.2.2.2.2.2.2.2 x hx)⟩
def gPc (D : va_G) (cy : Nat → ClassId) (B0 : Nat) (av : List Value) (f : gF) : Array Value → State → Prop := va_Pc av (fun U => B0 ≤ U.heap.size ∧ gK D cy U ∧ gP D B0 f U.heap ∧ gZ D B0 U U.heap)
def gQ (D : va_G) (B0 : Nat) (post : Option Value → gF → Prop) : Array Value → State → Outcome → State → Prop := fun _ st oc t => (∃ (v : Option Value) (f : gF), oc = .returned v ∧ post v f ∧ gP D B0 f t.heap) ∧ va_F (fun q : Nat => B0 ≤ q) st t
abbrev gM (l : Launch) (y : MethodName) (ws : List Cond) (fr lo : Nat) (D : va_G) (cy : Nat → ClassId) (B0 : Nat) (av : List Value) (f : gF) (post : Option Value → gF → Prop) (mc ms : Nat) : Prop := Met l y ws { frames := fr, cells := mc, slots := ms, locals := lo } (gPc D cy B0 av f) (gQ D B0 post) mc ms (fun q : Nat => B0 ≤ q)
theorem gPc_blind (D : va_G) (cy : Nat → ClassId) (B0 : Nat) (av : List Value) (f : gF) : FrameBlind (gPc D cy B0 av f) := fun _ U g mk q => ⟨q.1, q.2.1, q.2.2.1.calling, q.2.2.2.1, gZ.go (u := U) (U := U.calling g mk _) q.2.2.2.2 (Vm.Alike.refl U.vm) (fun _ _ _ => rfl)⟩

section GR
variable {p : Program} {l : Launch} {e : Env} {R : Room} {s : State} {m : MethodId} {args : Array Value} {below : List Frame} {meth : Method} {c : Code} {H : Heap} {locs : List Loc} {cells slots : Nat} {Q : State → Prop}
variable {cc : ByteArray} {pc : Nat} {ls : Array Slot} {rest : List Value}
variable {D : va_G} {cy : Nat → ClassId} {B0 : Nat} {H0 : State} {f : gF} {a : Nat}
theorem g_call {st0 : List Value} {mc ms : Nat} {aa : Array Value} {post : Option Value → gF → Prop} (hr : va_Run p l e R s m args below meth c H locs cells slots mc ms (F0 m pc ls st0) rest (gQ D B0 post aa) (fun q : Nat => B0 ≤ q)) (hW : gW D B0 H0 f H locs)
    (kk : ∀ (v : Option Value) (f1 : gF) (H1 : Heap) (locs1 : List Loc), post v f1 → gW D B0 H0 f1 H1 locs1 → W p l e R s m args below meth c H1 locs1 (cells + mc) (slots + ms) Q (F0 m (pc + 3) ls (v.toList ++ rest))) : W p l e R s m args below meth c H locs cells slots Q (F0 m (pc) ls (st0)) := by
  intro T hT X
  obtain ⟨v, st₀, t, T', L, h0, X', hL, e1, e2, ⟨⟨v', f1, hv, hp, hb⟩, hz, hk⟩, st⟩ := hr T hT X
  cases hv
  rw [h0] at hz hk
  obtain ⟨hP, hS, hB⟩ := hW
  obtain ⟨t2, a1, b1⟩ := kk v f1 T'.heap (locs ++ L) hp ⟨by rw [e1]; exact hb, ⟨Nat.le_trans hS.1 (by rw [e1]; exact hz), fun q h1 h2 => by rw [e1, hk q (Nat.lt_of_lt_of_le h1 hS.1) h2]; exact hS.2.1 q h1 h2, fun q hq => by
      rcases List.mem_append.mp hq with h | h
      · exact hS.2.2 q h
      · exact hL q h⟩, hB⟩ T' rfl X'
  exact ⟨t2, st t2 a1, b1⟩
/-- a call on an object of the world -/
theorem g_callV {y : MethodName} {bytes : ByteArray} {maxL nL mc ms n index fr lo i ci b N : Nat} {ret : Option FieldType} {ws Ts : List Cond} {own C : String} {T : u_T} {fs As st0 : List Value} {post : Option Value → gF → Prop}
    (S : CallFix p m c cc nL s args Ts own) (hM : gM l y ws fr lo D cy B0 (.ref b :: As) f post mc ms) (cw : CallW R s args own C index y bytes maxL ret ws { frames := fr, cells := mc, slots := ms, locals := lo } mc ms n)
    (hK : gK D cy s) (hW : gW D B0 s f H locs) (he : f i = some (b, .inr (ci, fs))) (hc : vwCl[ci]? = some (C, T, N)) (hn : As.length = n) (hsize : ls.size = nL) (hstack : st0 = As.reverse ++ .ref b :: rest) (hR : (rest.map fun v => v.category).sum ≤ 8) (hdg : decode cc pc = .ok (.invokevirtual index, 3)) (hf : cells + mc ≤ R.cells ∧ slots + ms ≤ R.slots)
    (kk : ∀ (v : Option Value) (f1 : gF) (H1 : Heap) (locs1 : List Loc), post v f1 → gW D B0 s f1 H1 locs1 → W p l e R s m args below meth c H1 locs1 (cells + mc) (slots + ms) Q (F0 m (pc + 3) ls (v.toList ++ rest))) : W p l e R s m args below meth c H locs cells slots Q (F0 m (pc) ls (st0)) := by
  subst hstack
  refine g_call (post := post) (aa := (Value.ref b :: As).toArray) (va_runV (As := As) (rest := rest) S hM cw ⟨gPc_blind D cy B0 _ f, va_recv (q0 := 0) hK.1 (hW.1.one he) hc rfl, fun U hU hWU => ⟨rfl, by rw [hU]; exact Nat.le_trans hW.2.2.1 hW.2.1.1, hK.warm hWU, by rw [hU]; exact hW.1, by rw [hU]; exact hW.2.2.2.go hWU.alike (fun a h1 h2 => hW.2.1.2.1 a h1 h2)⟩⟩ rfl hn hsize rfl (lv_room hR) hdg hf) hW kk
theorem g_callS {y : MethodName} {bytes : ByteArray} {maxL nL mc ms n index fr lo : Nat} {ret : Option FieldType} {ws Ts : List Cond} {own : String} {As st0 : List Value} {post : Option Value → gF → Prop}
    (S : CallFix p m c cc nL s args Ts own) (hM : gM l y ws fr lo D cy B0 As f post mc ms) (cw : CallB R s args own index y bytes maxL ret ws { frames := fr, cells := mc, slots := ms, locals := lo } mc ms n ∧ (Cond.static y).before args s = true)
    (hK : gK D cy s) (hW : gW D B0 s f H locs) (hn : As.length = n) (hsize : ls.size = nL) (hstack : st0 = As.reverse ++ rest) (hR : (rest.map fun v => v.category).sum ≤ 8) (hdg : decode cc pc = .ok (.invokestatic index, 3)) (hf : cells + mc ≤ R.cells ∧ slots + ms ≤ R.slots)
    (kk : ∀ (v : Option Value) (f1 : gF) (H1 : Heap) (locs1 : List Loc), post v f1 → gW D B0 s f1 H1 locs1 → W p l e R s m args below meth c H1 locs1 (cells + mc) (slots + ms) Q (F0 m (pc + 3) ls (v.toList ++ rest))) : W p l e R s m args below meth c H locs cells slots Q (F0 m (pc) ls (st0)) := by
  subst hstack
  refine g_call (post := post) (aa := As.toArray) (va_runS (As := As) (rest := rest) S hM cw ⟨gPc_blind D cy B0 _ f, fun U hU hWU => ⟨rfl, by rw [hU]; exact Nat.le_trans hW.2.2.1 hW.2.1.1, hK.warm hWU, by rw [hU]; exact hW.1, by rw [hU]; exact hW.2.2.2.go hWU.alike (fun a h1 h2 => hW.2.1.2.1 a h1 h2)⟩⟩ rfl hn hsize rfl (lv_room hR) hdg hf) hW kk
theorem g_callI {y : MethodName} {bytes : ByteArray} {maxL nL mc ms n index fr lo b : Nat} {ws Ts : List Cond} {own : String} {As st0 : List Value} {post : Option Value → gF → Prop}
    (S : CallFix p m c cc nL s args Ts own) (hM : gM l y ws fr lo D cy B0 (.ref b :: As) f post mc ms) (cw : CallB R s args own index y bytes maxL none ws { frames := fr, cells := mc, slots := ms, locals := lo } mc ms n ∧ y.name = "<init>" ∧ (Cond.instanceMethod y).before args s = true)
    (hK : gK D cy s) (hW : gW D B0 s f H locs) (hn : As.length = n) (hsize : ls.size = nL) (hstack : st0 = As.reverse ++ .ref b :: rest) (hR : (rest.map fun v => v.category).sum ≤ 8) (hdg : decode cc pc = .ok (.invokespecial index, 3)) (hf : cells + mc ≤ R.cells ∧ slots + ms ≤ R.slots)
    (kk : ∀ (v : Option Value) (f1 : gF) (H1 : Heap) (locs1 : List Loc), post v f1 → gW D B0 s f1 H1 locs1 → W p l e R s m args below meth c H1 locs1 (cells + mc) (slots + ms) Q (F0 m (pc + 3) ls (v.toList ++ rest))) : W p l e R s m args below meth c H locs cells slots Q (F0 m (pc) ls (st0)) := by
  subst hstack
  refine g_call (post := post) (aa := (Value.ref b :: As).toArray) (va_runI (As := As) (rest := rest) S hM cw ⟨gPc_blind D cy B0 _ f, fun U hU hWU => ⟨rfl, by rw [hU]; exact Nat.le_trans hW.2.2.1 hW.2.1.1, hK.warm hWU, by rw [hU]; exact hW.1, by rw [hU]; exact hW.2.2.2.go hWU.alike (fun a h1 h2 => hW.2.1.2.1 a h1 h2)⟩⟩ rfl hn hsize rfl (lv_room hR) hdg hf) hW kk
theorem g_callSN {y : MethodName} {bytes : ByteArray} {maxL nL mc ms n index fr lo : Nat} {ret : Option FieldType} {ws Ts : List Cond} {own host : String} {As st0 : List Value} {post : Option Value → gF → Prop}
    (S : CallFix p m c cc nL s args Ts own) (hM : gM l y ws fr lo D cy B0 As f post mc ms) (cw : va_CN R s args own index y host bytes maxL ret ws { frames := fr, cells := mc, slots := ms, locals := lo } mc ms n ∧ (Cond.static y).before args s = true ∧ True)
    (hK : gK D cy s) (hW : gW D B0 s f H locs) (hn : As.length = n) (hsize : ls.size = nL) (hstack : st0 = As.reverse ++ rest) (hR : (rest.map fun v => v.category).sum ≤ 8) (hdg : decode cc pc = .ok (.invokestatic index, 3)) (hf : cells + mc ≤ R.cells ∧ slots + ms ≤ R.slots)
    (kk : ∀ (v : Option Value) (f1 : gF) (H1 : Heap) (locs1 : List Loc), post v f1 → gW D B0 s f1 H1 locs1 → W p l e R s m args below meth c H1 locs1 (cells + mc) (slots + ms) Q (F0 m (pc + 3) ls (v.toList ++ rest))) : W p l e R s m args below meth c H locs cells slots Q (F0 m (pc) ls (st0)) := by
  subst hstack
  refine g_call (post := post) (aa := As.toArray) (va_runSN (As := As) (rest := rest) S hM cw ⟨gPc_blind D cy B0 _ f, fun U hU hWU => ⟨rfl, by rw [hU]; exact Nat.le_trans hW.2.2.1 hW.2.1.1, hK.warm hWU, by rw [hU]; exact hW.1, by rw [hU]; exact hW.2.2.2.go hWU.alike (fun a h1 h2 => hW.2.1.2.1 a h1 h2)⟩⟩ rfl hn hsize rfl (lv_room hR) hdg hf) hW kk
theorem g_callIN {y : MethodName} {bytes : ByteArray} {maxL nL mc ms n index fr lo b : Nat} {ws Ts : List Cond} {own host : String} {As st0 : List Value} {post : Option Value → gF → Prop}
    (S : CallFix p m c cc nL s args Ts own) (hM : gM l y ws fr lo D cy B0 (.ref b :: As) f post mc ms) (cw : va_CN R s args own index y host bytes maxL none ws { frames := fr, cells := mc, slots := ms, locals := lo } mc ms n ∧ y.name = "<init>" ∧ (Cond.instanceMethod y).before args s = true)
    (hK : gK D cy s) (hW : gW D B0 s f H locs) (hn : As.length = n) (hsize : ls.size = nL) (hstack : st0 = As.reverse ++ .ref b :: rest) (hR : (rest.map fun v => v.category).sum ≤ 8) (hdg : decode cc pc = .ok (.invokespecial index, 3)) (hf : cells + mc ≤ R.cells ∧ slots + ms ≤ R.slots)
    (kk : ∀ (v : Option Value) (f1 : gF) (H1 : Heap) (locs1 : List Loc), post v f1 → gW D B0 s f1 H1 locs1 → W p l e R s m args below meth c H1 locs1 (cells + mc) (slots + ms) Q (F0 m (pc + 3) ls (v.toList ++ rest))) : W p l e R s m args below meth c H locs cells slots Q (F0 m (pc) ls (st0)) := by
  subst hstack
  refine g_call (post := post) (aa := (Value.ref b :: As).toArray) (va_runIN (As := As) (rest := rest) S hM cw ⟨gPc_blind D cy B0 _ f, fun U hU hWU => ⟨rfl, by rw [hU]; exact Nat.le_trans hW.2.2.1 hW.2.1.1, hK.warm hWU, by rw [hU]; exact hW.1, by rw [hU]; exact hW.2.2.2.go hWU.alike (fun a h1 h2 => hW.2.1.2.1 a h1 h2)⟩⟩ rfl hn hsize rfl (lv_room hR) hdg hf) hW kk
theorem g_get (hexec : p.tables.exec = Jvm.exec) (hb : c.code = cc) {own ref C : String} {T : u_T} {N ci index : Nat} {Ts : List Cond} (hts : ∀ w ∈ Ts, w.before args s = true) (hin : ∀ w ∈ u_ws C T N, w ∈ Ts) (hown : s.vm.findClass own = some m.cls) (hK : gK D cy s) (hW : gW D B0 H0 f H locs) (i : Nat) {fs : List Value} (he : f i = some (a, .inr (ci, fs))) (hc : vwCl[ci]? = some (C, T, N)) (k : Nat) (hk : k < N) (hlink : (Cond.fieldLink own index ref (T k).2.1 (T k).2.2.1).before args s = true) (hsame : ∀ x, s.fieldFound? (T k).1 (T k).2.1 (T k).2.2.1 = some x → s.fieldFound? ref (T k).2.1 (T k).2.2.1 = some x) {v : Value} (hv : fs[k]? = some v) (hdg : decode cc pc = .ok (.getfield index, 3))
    (kk : W p l e R s m args below meth c H locs cells slots Q (F0 m (pc + 3) ls (v :: rest))) : W p l e R s m args below meth c H locs cells slots Q (F0 m (pc) ls (.ref a :: rest)) := va_get hexec hb hts hin hown hK.1 (hW.1.one he) 0 rfl hc k hk hlink hsame hv hdg kk
theorem g_put (hexec : p.tables.exec = Jvm.exec) (hb : c.code = cc) {own ref C : String} {T : u_T} {N ci index : Nat} {Ts : List Cond} (hts : ∀ w ∈ Ts, w.before args s = true) (hin : ∀ w ∈ u_ws C T N, w ∈ Ts) (ty0 : Nat → FieldType) (hty : ∀ k, k < N → parseFieldDescriptor (T k).2.2.1 = some (ty0 k)) (hnm : ∀ a, a < N → ∀ b, b < N → a ≠ b → (T a).2.1 ≠ (T b).2.1) (hown : s.vm.findClass own = some m.cls) (hK : gK D cy s) (hW : gW D B0 H0 f H locs) (i : Nat) {fs : List Value} (he : f i = some (a, .inr (ci, fs))) (hc : vwCl[ci]? = some (C, T, N)) (k : Nat) (hk : k < N) (hlink : (Cond.fieldLink own index ref (T k).2.1 (T k).2.2.1).before args s = true) (hsame : ∀ x, s.fieldFound? (T k).1 (T k).2.1 (T k).2.2.1 = some x → s.fieldFound? ref (T k).2.1 (T k).2.2.1 = some x) (hfin : (T k).2.2.2 = false) {ty : FieldType} {v : Value} (hd : parseFieldDescriptor (T k).2.2.1 = some ty) (hn : narrow ty v = v) (hfit : fits ty v = true) (hl : k < fs.length)
    (hdg : decode cc pc = .ok (.putfield index, 3)) (kk : ∀ (H1 : Heap) (locs1 : List Loc), gW D B0 H0 (gup f i a (.inr (ci, fs.set k v))) H1 locs1 → W p l e R s m args below meth c H1 locs1 cells slots Q (F0 m (pc + 3) ls (rest))) : W p l e R s m args below meth c H locs cells slots Q (F0 m (pc) ls (v :: .ref a :: rest)) := by
  have hap := va_apart (own := own) hts hin ty0 hty hnm hK.1 hc
  obtain ⟨r, h1, cell, q1, q2, q3, q4⟩ := (hW.1.1 i _ he).1
  have hr : r = (C, T, N) := Option.some.inj (h1.symm.trans hc)
  subst hr
  obtain ⟨hS, hfc, kC, hkC, hkind⟩ := hK.1.1 ci _ hc
  obtain ⟨cf, kf, fi, f0, hi, hsl⟩ := hS k hk
  have hlay := hts _ (hin _ (u_in_lay hk))
  unfold u_lay at hlay
  rw [if_neg (by rw [hfin]; decide)] at hlay
  have hst := (u_facts hfc hkC (u_lays hts hin hk) hi).1
  have h6 := u_store hfc hkC hkind hlay hi hd hn hfit
  refine W.putK hexec hb (f := f0) ⟨hown, hlink, ⟨_, _, _, hsame _ hi⟩, hst⟩ (by rw [q2]; exact h6) q1 q3 (by rw [hsl]; exact k2_hasslot (q4 k hk)) rfl rfl hdg fun H' e1 e2 e3 => ?_
  rw [hsl] at e1 ⊢
  exact kk H' _ ⟨hW.1.set he ⟨_, hc, t_OB.to (V := updV (vp_V fs) k v) ⟨_, e1, q2, q3, t_set q4 hap hk v⟩ (fun j _ => vp_updV_set hl v j)⟩ e3, hW.2.1.put e2 e3 (hW.1.1 i _ he).2, hW.2.2⟩
theorem g_putF (hexec : p.tables.exec = Jvm.exec) (hb : c.code = cc) {own ref C : String} {T : u_T} {N ci index : Nat} {Ts : List Cond} (hts : ∀ w ∈ Ts, w.before args s = true) (hin : ∀ w ∈ u_ws C T N, w ∈ Ts) (ty0 : Nat → FieldType) (hty : ∀ k, k < N → parseFieldDescriptor (T k).2.2.1 = some (ty0 k)) (hnm : ∀ a, a < N → ∀ b, b < N → a ≠ b → (T a).2.1 ≠ (T b).2.1) (hown : s.vm.findClass own = some m.cls) (hK : gK D cy s) (hW : gW D B0 H0 f H locs) (i : Nat) {fs : List Value} (he : f i = some (a, .inr (ci, fs))) (hc : vwCl[ci]? = some (C, T, N)) (k : Nat) (hk : k < N) (hlink : (Cond.fieldLink own index ref (T k).2.1 (T k).2.2.1).before args s = true) (hsame : ∀ x, s.fieldFound? (T k).1 (T k).2.1 (T k).2.2.1 = some x → s.fieldFound? ref (T k).2.1 (T k).2.2.1 = some x) (hfin : (T k).2.2.2 = true) (hin2 : meth.name = "<init>") (hdecl : (T k).1 = own) {ty : FieldType} {v : Value} (hd : parseFieldDescriptor (T k).2.2.1 = some ty) (hn : narrow ty v = v) (hfit : fits ty v = true) (hl : k < fs.length)
    (hdg : decode cc pc = .ok (.putfield index, 3)) (kk : ∀ (H1 : Heap) (locs1 : List Loc), gW D B0 H0 (gup f i a (.inr (ci, fs.set k v))) H1 locs1 → W p l e R s m args below meth c H1 locs1 cells slots Q (F0 m (pc + 3) ls (rest))) : W p l e R s m args below meth c H locs cells slots Q (F0 m (pc) ls (v :: .ref a :: rest)) := by
  have hap := va_apart (own := own) hts hin ty0 hty hnm hK.1 hc
  obtain ⟨r, h1, cell, q1, q2, q3, q4⟩ := (hW.1.1 i _ he).1
  have hr : r = (C, T, N) := Option.some.inj (h1.symm.trans hc)
  subst hr
  obtain ⟨hS, hfc, kC, hkC, hkind⟩ := hK.1.1 ci _ hc
  obtain ⟨cf, kf, fi, f0, hi, hsl⟩ := hS k hk
  have hlay := hts _ (hin _ (u_in_lay hk))
  unfold u_lay at hlay
  rw [if_pos hfin] at hlay
  have hst := (u_facts hfc hkC (u_lays hts hin hk) hi).1
  have hcf : m.cls = cf := by
    obtain ⟨_, _, c', _, _, _, -, -, hf', -, -, -, hown2, -⟩ := Cond.laysFinal_spec hlay
    have e1 : c' = cf := by have := hi.symm.trans hf'; simp at this; exact this.1.symm
    rw [hdecl] at hown2
    rw [← e1]; exact Option.some.inj (hown.symm.trans hown2)
  have h6 := u_fits hfc hkC hkind (Or.inr hlay) hi hd hn hfit
  refine W.putFinK hexec hb hown hlink (hsame _ hi) hst hcf hin2 (by rw [q2]; exact h6) q1 q3 (by rw [hsl]; exact k2_hasslot (q4 k hk)) rfl rfl hdg fun H' e1 e2 e3 => ?_
  rw [hsl] at e1 ⊢
  exact kk H' _ ⟨hW.1.set he ⟨_, hc, t_OB.to (V := updV (vp_V fs) k v) ⟨_, e1, q2, q3, t_set q4 hap hk v⟩ (fun j _ => vp_updV_set hl v j)⟩ e3, hW.2.1.put e2 e3 (hW.1.1 i _ he).2, hW.2.2⟩
theorem g_iald (hexec : p.tables.exec = Jvm.exec) (hb : c.code = cc) (hK : gK D cy s) (hW : gW D B0 H0 f H locs) (i : Nat) {n : Nat} {g : Nat → Int32} (he : f i = some (a, .inl (cy 0, n, .inl g))) {j : Int32} (hin : vp_in j n) (hdg : decode cc pc = .ok (.iaload, 1))
    (kk : W p l e R s m args below meth c H locs cells slots Q (F0 m (pc + 1) ls (.int (g j.toNatClampNeg) :: rest))) : W p l e R s m args below meth c H locs cells slots Q (F0 m (pc) ls (.int j :: .ref a :: rest)) := va_iald (ws := [(a, .inl (cy 0, n, .inl g))]) hexec hb hK.1 (hW.1.one he) 0 0 rfl rfl hin hdg kk
theorem g_lald (hexec : p.tables.exec = Jvm.exec) (hb : c.code = cc) (hK : gK D cy s) (hW : gW D B0 H0 f H locs) (i : Nat) {n : Nat} {g : Nat → Int64} (he : f i = some (a, .inl (cy 1, n, .inr (.inl g)))) {j : Int32} (hin : vp_in j n) (hdg : decode cc pc = .ok (.laload, 1))
    (kk : W p l e R s m args below meth c H locs cells slots Q (F0 m (pc + 1) ls (.long (g j.toNatClampNeg) :: rest))) : W p l e R s m args below meth c H locs cells slots Q (F0 m (pc) ls (.int j :: .ref a :: rest)) := va_lald (ws := [(a, .inl (cy 1, n, .inr (.inl g)))]) hexec hb hK.1 (hW.1.one he) 0 1 rfl rfl hin hdg kk
theorem g_aldq (hexec : p.tables.exec = Jvm.exec) (hb : c.code = cc) (hK : gK D cy s) (hW : gW D B0 H0 f H locs) (i : Nat) {n : Nat} {g : Nat → Option Nat} (he : f i = some (a, .inl (cy 3, n, .inr (.inr (.inr (.inr g)))))) {j : Int32} (hin : vp_in j n) (hdg : decode cc pc = .ok (.aaload, 1))
    (kk : W p l e R s m args below meth c H locs cells slots Q (F0 m (pc + 1) ls (va_rf (g j.toNatClampNeg) :: rest))) : W p l e R s m args below meth c H locs cells slots Q (F0 m (pc) ls (.int j :: .ref a :: rest)) := va_aldq (ws := [(a, .inl (cy 3, n, .inr (.inr (.inr (.inr g)))))]) hexec hb hK.1 (hW.1.one he) 0 3 rfl rfl hin hdg kk
theorem g_iast (hexec : p.tables.exec = Jvm.exec) (hb : c.code = cc) (hK : gK D cy s) (hW : gW D B0 H0 f H locs) (i : Nat) {n : Nat} {g : Nat → Int32} (he : f i = some (a, .inl (cy 0, n, .inl (g)))) {j : Int32} {x : Int32} (hin : vp_in j n) (hdg : decode cc pc = .ok (.iastore, 1))
    (kk : ∀ (H1 : Heap) (locs1 : List Loc), gW D B0 H0 (gup f i a (.inl (cy 0, n, .inl (upd g j.toNatClampNeg x)))) H1 locs1 → W p l e R s m args below meth c H1 locs1 cells slots Q (F0 m (pc + 1) ls (rest))) : W p l e R s m args below meth c H locs cells slots Q (F0 m (pc) ls (.int x :: .int j :: .ref a :: rest)) := by
  refine W.iast hexec hb (hW.1.1 i _ he).1 ((hK.1.2 0 _ rfl).1 n (fun j => .int (g j))) (fun q => by cases q) (by show ¬ (j < 0 ∨ (arrV _ _ _).slots.size ≤ _); rw [arrV_size]; exact hin) rfl rfl hdg fun H1 e z oq => ?_
  refine kk H1 _ ⟨hW.1.set he ?_ oq, hW.2.1.put z oq (hW.1.1 i _ he).2, hW.2.2⟩
  show H1[a]? = some (vp_cell _ _)
  rw [e]
  rw [vp_cell_i, vp_cell_i, arrV_store]
  congr 2
  funext q
  by_cases hq : q = j.toNatClampNeg
  · subst hq
    simp [updV, upd]
    try rfl
  · simp [updV, upd, hq]
theorem g_last (hexec : p.tables.exec = Jvm.exec) (hb : c.code = cc) (hK : gK D cy s) (hW : gW D B0 H0 f H locs) (i : Nat) {n : Nat} {g : Nat → Int64} (he : f i = some (a, .inl (cy 1, n, .inr (.inl (g))))) {j : Int32} {x : Int64} (hin : vp_in j n) (hdg : decode cc pc = .ok (.lastore, 1))
    (kk : ∀ (H1 : Heap) (locs1 : List Loc), gW D B0 H0 (gup f i a (.inl (cy 1, n, .inr (.inl (vp_updL g j.toNatClampNeg x))))) H1 locs1 → W p l e R s m args below meth c H1 locs1 cells slots Q (F0 m (pc + 1) ls (rest))) : W p l e R s m args below meth c H locs cells slots Q (F0 m (pc) ls (.long x :: .int j :: .ref a :: rest)) := by
  refine W.last hexec hb (hW.1.1 i _ he).1 ((hK.1.2 1 _ rfl).1 n (fun j => .long (g j))) (fun q => by cases q) (by show ¬ (j < 0 ∨ (arrV _ _ _).slots.size ≤ _); rw [arrV_size]; exact hin) rfl rfl hdg fun H1 e z oq => ?_
  refine kk H1 _ ⟨hW.1.set he ?_ oq, hW.2.1.put z oq (hW.1.1 i _ he).2, hW.2.2⟩
  show H1[a]? = some (vp_cell _ _)
  rw [e]
  rw [vp_cell_l, vp_cell_l, arrV_store]
  congr 2
  funext q
  by_cases hq : q = j.toNatClampNeg
  · subst hq
    simp [updV, vp_updL]
    try rfl
  · simp [updV, vp_updL, hq]
theorem g_alen (hexec : p.tables.exec = Jvm.exec) (hb : c.code = cc) (hK : gK D cy s) (hW : gW D B0 H0 f H locs) (i : Nat) {x : vp_A} {ci : Nat} (he : f i = some (a, .inl (cy ci, x))) {ty : FieldType} (ht : (gT cy)[ci]? = some (cy ci, ty)) {v : Int32} (hv : Int32.ofNat x.1 = v) (hdg : decode cc pc = .ok (.arraylength, 1))
    (kk : W p l e R s m args below meth c H locs cells slots Q (F0 m (pc + 1) ls (.int v :: rest))) : W p l e R s m args below meth c H locs cells slots Q (F0 m (pc) ls (.ref a :: rest)) := va_alen (ws := [(a, .inl (cy ci, x))]) hexec hb hK.1 (hW.1.one he) 0 ci rfl ht hv hdg kk
theorem g_new (hexec : p.tables.exec = Jvm.exec) (hb : c.code = cc) {own C : String} {T : u_T} {N ci index : Nat} {Ts : List Cond} (hts : ∀ w ∈ Ts, w.before args s = true) (hin : ∀ w ∈ u_ws C T N, w ∈ Ts) (ty : Nat → FieldType) (hty : ∀ k, k < N → parseFieldDescriptor (T k).2.2.1 = some (ty k)) (hown : s.vm.findClass own = some m.cls) (hcl : (Cond.classLink own index C).before args s = true) (hinst : (Cond.instantiable C N).before args s = true) (hini : (Cond.initialized C).before args s = true)
    (hK : gK D cy s) (hW : gW D B0 H0 f H locs) (i : Nat) (hc : vwCl[ci]? = some (C, T, N)) {fs : List Value} (hfs : ∀ j, j < N → defaultValue (ty j) = vp_V fs j) (hcells : cells + 1 ≤ R.cells) (hslots : slots + N ≤ R.slots) (hdg : decode cc pc = .ok (.new index, 3))
    (kk : ∀ (q : Nat) (H1 : Heap), gW D B0 H0 (gup f i q (.inr (ci, fs))) H1 locs → (∀ (j : Nat) (r : Nat × va_E), f j = some r → r.1 ≠ q) → W p l e R s m args below meth c H1 locs (cells + 1) (slots + N) Q (F0 m (pc + 3) ls (.ref q :: rest))) : W p l e R s m args below meth c H locs cells slots Q (F0 m (pc) ls (rest)) := by
  have hKn := hK.1.1 ci _ hc
  refine W.newcK hexec hb hown hcl hinst hini rfl hdg hcells hslots hKn.2.1 rfl fun H1 kC hkC e1 z1 o1 => ?_
  refine kk H.size H1 ⟨hW.1.new i ⟨_, hc, (u_born ty hts hin hKn hkC e1 hty).to hfs⟩ (Nat.le_trans hW.2.2.1 hW.2.1.1) o1, ⟨Nat.le_trans hW.2.1.1 (by omega), fun x h1 h2 => (o1 x (Nat.lt_of_lt_of_le h1 hW.2.1.1)).trans (hW.2.1.2.1 x h1 h2), hW.2.1.2.2⟩, hW.2.2⟩ (fun j r hj hr => ?_)
  have h5 := (hW.1.1 j r hj).1.lt
  omega
theorem g_newa (hexec : p.tables.exec = Jvm.exec) (hb : c.code = cc) {atype : ArrayType} (harr : (Cond.arrayClass (newarray.typeOf atype)).before args s = true) {ty : FieldType} {ci : Nat} (hty : newarray.typeOf atype = ty) (hK : gK D cy s) (hT : (gT cy)[ci]? = some (cy ci, ty)) (hTn : ∀ cA : ClassId, s.vm.findClass ("[" ++ ty.toString) = some cA → cA = cy ci) (hW : gW D B0 H0 f H locs) (i : Nat)
    {n : Int32} {N' : Nat} {a0 : vp_A} (ha : ∀ cA : ClassId, vp_cell cA a0 = arrV cA N' (fun _ => defaultValue ty)) (hn : ¬ n < 0) (hN : n.toNatClampNeg = N') (hbytes : N' * componentBytes ty ≤ 536870912) (hcells : cells + 1 ≤ R.cells) (hslots : slots + N' ≤ R.slots) (hdg : decode cc pc = .ok (.newarray atype, 2))
    (kk : ∀ (q : Nat) (H1 : Heap), gW D B0 H0 (gup f i q (.inl (cy ci, a0))) H1 locs → (∀ (j : Nat) (r : Nat × va_E), f j = some r → r.1 ≠ q) → W p l e R s m args below meth c H1 locs (cells + 1) (slots + N') Q (F0 m (pc + 2) ls (.ref q :: rest))) : W p l e R s m args below meth c H locs cells slots Q (F0 m (pc) ls (.int n :: rest)) := by
  subst hty
  refine va_newaK hexec hb harr rfl hdg rfl hn hN hbytes hcells hslots rfl fun H1 cA e1 z1 o1 hAr hNm => ?_
  have hcA : cA = cy ci := hTn cA hNm
  subst hcA
  refine kk H.size H1 ⟨hW.1.new i ?_ (Nat.le_trans hW.2.2.1 hW.2.1.1) o1, ⟨Nat.le_trans hW.2.1.1 (by omega), fun x h1 h2 => (o1 x (Nat.lt_of_lt_of_le h1 hW.2.1.1)).trans (hW.2.1.2.1 x h1 h2), hW.2.1.2.2⟩, hW.2.2⟩ (fun j r hj hr => ?_)
  · show H1[H.size]? = some (vp_cell _ _)
    rw [ha]
    exact e1
  · have h5 := (hW.1.1 j r hj).1.lt
    omega
theorem g_iret (hexec : p.tables.exec = Jvm.exec) (hb : c.code = cc) {v : Int32} {post : Option Value → gF → Prop} (hr : meth.sig.returnType = some .int) (hW : gW D B0 s f H locs) (hp : post (some (.int v)) f) (hdg : decode cc pc = .ok (.ireturn, 1)) (hlocks : meth.locks = false) : W p l e R s m args below meth c H locs cells slots (MQ below (gQ D B0 post) args s cells slots (fun q : Nat => B0 ≤ q)) (F0 m pc ls [.int v]) :=
  W.iret hexec hb hr (fun t ht _ => ⟨⟨_, f, rfl, hp, by rw [ht]; exact hW.1⟩, hW.2.1.F ht⟩) hW.2.1.2.2 hdg hlocks
theorem g_lret (hexec : p.tables.exec = Jvm.exec) (hb : c.code = cc) {v : Int64} {post : Option Value → gF → Prop} (hr : meth.sig.returnType = some .long) (hW : gW D B0 s f H locs) (hp : post (some (.long v)) f) (hdg : decode cc pc = .ok (.lreturn, 1)) (hlocks : meth.locks = false) : W p l e R s m args below meth c H locs cells slots (MQ below (gQ D B0 post) args s cells slots (fun q : Nat => B0 ≤ q)) (F0 m pc ls [.long v]) :=
  W.lret hexec hb hr (fun t ht _ => ⟨⟨_, f, rfl, hp, by rw [ht]; exact hW.1⟩, hW.2.1.F ht⟩) hW.2.1.2.2 hdg hlocks
theorem g_zret (hexec : p.tables.exec = Jvm.exec) (hb : c.code = cc) {z : Int} {post : Option Value → gF → Prop} (hr : meth.sig.returnType = some .boolean) (hz : z = 0 ∨ z = 1) (hW : gW D B0 s f H locs) (hp : post (some (.int (iI z))) f) (hdg : decode cc pc = .ok (.ireturn, 1)) (hlocks : meth.locks = false) : W p l e R s m args below meth c H locs cells slots (MQ below (gQ D B0 post) args s cells slots (fun q : Nat => B0 ≤ q)) (F0 m pc ls [.int (iI z)]) :=
  W.zret hexec hb hr (iI_narz hz) (fun t ht _ => ⟨⟨_, f, rfl, hp, by rw [ht]; exact hW.1⟩, hW.2.1.F ht⟩) hW.2.1.2.2 hdg hlocks
theorem g_vret (hexec : p.tables.exec = Jvm.exec) (hb : c.code = cc) {post : Option Value → gF → Prop} (hr : meth.sig.returnType = none) (hW : gW D B0 s f H locs) (hp : post none f) (hdg : decode cc pc = .ok (.return_, 1)) (hlocks : meth.locks = false) : W p l e R s m args below meth c H locs cells slots (MQ below (gQ D B0 post) args s cells slots (fun q : Nat => B0 ≤ q)) (F0 m pc ls []) :=
  W.vret hexec hb hr (fun t ht _ => ⟨⟨_, f, rfl, hp, by rw [ht]; exact hW.1⟩, hW.2.1.F ht⟩) hW.2.1.2.2 hdg hlocks
theorem g_aret (hexec : p.tables.exec = Jvm.exec) (hb : c.code = cc) {v : Value} {n : String} {post : Option Value → gF → Prop} (hr : meth.sig.returnType = some (.object n)) (hv : v = .null ∨ ∃ a, v = .ref a) (hW : gW D B0 s f H locs) (hp : post (some v) f) (hdg : decode cc pc = .ok (.areturn, 1)) (hlocks : meth.locks = false) : W p l e R s m args below meth c H locs cells slots (MQ below (gQ D B0 post) args s cells slots (fun q : Nat => B0 ≤ q)) (F0 m pc ls [v]) :=
  W.aret hexec hb hr (Or.inl ⟨n, rfl⟩) hv (fun t ht _ => ⟨⟨_, f, rfl, hp, by rw [ht]; exact hW.1⟩, hW.2.1.F ht⟩) hW.2.1.2.2 hdg hlocks
/-- the start of a method: what stands there -/
theorem g_start {y : MethodName} {ws ws' : List Cond} {fr lo mc ms : Nat} {av : List Value} {post : Option Value → gF → Prop} {maxL : Nat} {ret : Option FieldType} (hy : plainName y.cls = true) (hw : ws = Cond.code y cc maxL ret :: ws') (hlen : (lg_sl av).length ≤ maxL)
    (body : ∀ (p : Program) (e : Env) (s : State) (m : MethodId) (below : List Frame) (meth : Method) (c : Code) (ls : Array Slot) (H : Heap) (locs : List Loc), CallFix p m c cc maxL s av.toArray ws y.cls → meth.sig.returnType = ret → meth.locks = false → meth.name = y.name → gK D cy s → gW D B0 s f H locs → lv_has ls maxL (lv_args 0 av) →
      W p l e { frames := fr, cells := mc, slots := ms, locals := lo } s m av.toArray below meth c H locs 0 0 (MQ below (gQ D B0 post) av.toArray s mc ms (fun q : Nat => B0 ≤ q)) (F0 m 0 ls [])) : gM l y ws fr lo D cy B0 av f post mc ms := by
  refine Met.ofW (cc := cc) (maxL := maxL) (ret := ret) hy hw ?_
  intro p e s m args below meth c s₁ B hml hv
  obtain ⟨rfl, hB0, hK, hP, hZ⟩ := hv
  have hts := atoms_spec (ws := ws) B.pre
  have hown : s.vm.findClass y.cls = some m.cls := findClass_of_methodNamed B.named
  rw [lg_entry_eq]
  exact body p e s m below meth c _ s.heap [] ⟨B.exec, B.bytes, hml, hown, hts⟩ B.returns B.notSynchronized (name_of_methodNamed B.named B.method).1 hK ⟨hP, va_S.rf, hB0, hZ⟩ (lv_entry av hlen)
/-- a loop: what holds at its head, and a measure that falls -/
theorem lp_w1 {A1 : Type} {Wg : Heap → List Loc → Array Slot → Prop} (I : A1 → Heap → List Loc → Array Slot → Prop) (μ : A1 → Nat) (hs : ∀ (a1 : A1) (H : Heap) (locs : List Loc) (ls : Array Slot), I a1 H locs ls → (∀ (b1 : A1) (H' : Heap) (locs' : List Loc) (ls' : Array Slot), μ b1 < μ a1 → I b1 H' locs' ls' → Wg H' locs' ls') → Wg H locs ls) : ∀ (a1 : A1) (H : Heap) (locs : List Loc) (ls : Array Slot), I a1 H locs ls → Wg H locs ls := by
  have key : ∀ (n : Nat) (a1 : A1) (H : Heap) (locs : List Loc) (ls : Array Slot), μ a1 < n → I a1 H locs ls → Wg H locs ls := by
    intro n
    induction n with
    | zero => intro a1 H locs ls h; omega
    | succ n ih => intro a1 H locs ls h hI; exact hs a1 H locs ls hI (fun b1 H' locs' ls' hb hI' => ih b1 H' locs' ls' (by omega) hI')
  exact fun a1 H locs ls hI => key (μ a1 + 1) a1 H locs ls (by omega) hI
theorem lp_w2 {A1 A2 : Type} {Wg : Heap → List Loc → Array Slot → Prop} (I : A1 → A2 → Heap → List Loc → Array Slot → Prop) (μ : A1 → A2 → Nat) (hs : ∀ (a1 : A1) (a2 : A2) (H : Heap) (locs : List Loc) (ls : Array Slot), I a1 a2 H locs ls → (∀ (b1 : A1) (b2 : A2) (H' : Heap) (locs' : List Loc) (ls' : Array Slot), μ b1 b2 < μ a1 a2 → I b1 b2 H' locs' ls' → Wg H' locs' ls') → Wg H locs ls) : ∀ (a1 : A1) (a2 : A2) (H : Heap) (locs : List Loc) (ls : Array Slot), I a1 a2 H locs ls → Wg H locs ls :=
  fun a1 a2 => lp_w1 (A1 := A1 × A2) (fun a => I a.1 a.2) (fun a => μ a.1 a.2) (fun a H locs ls hI ih => hs a.1 a.2 H locs ls hI (fun b1 b2 => ih (b1, b2))) (a1, a2)
theorem lp_w3 {A1 A2 A3 : Type} {Wg : Heap → List Loc → Array Slot → Prop} (I : A1 → A2 → A3 → Heap → List Loc → Array Slot → Prop) (μ : A1 → A2 → A3 → Nat) (hs : ∀ (a1 : A1) (a2 : A2) (a3 : A3) (H : Heap) (locs : List Loc) (ls : Array Slot), I a1 a2 a3 H locs ls → (∀ (b1 : A1) (b2 : A2) (b3 : A3) (H' : Heap) (locs' : List Loc) (ls' : Array Slot), μ b1 b2 b3 < μ a1 a2 a3 → I b1 b2 b3 H' locs' ls' → Wg H' locs' ls') → Wg H locs ls) : ∀ (a1 : A1) (a2 : A2) (a3 : A3) (H : Heap) (locs : List Loc) (ls : Array Slot), I a1 a2 a3 H locs ls → Wg H locs ls :=
  fun a1 a2 a3 => lp_w1 (A1 := A1 × A2 × A3) (fun a => I a.1 a.2.1 a.2.2) (fun a => μ a.1 a.2.1 a.2.2) (fun a H locs ls hI ih => hs a.1 a.2.1 a.2.2 H locs ls hI (fun b1 b2 b3 => ih (b1, b2, b3))) (a1, a2, a3)
theorem lp_w4 {A1 A2 A3 A4 : Type} {Wg : Heap → List Loc → Array Slot → Prop} (I : A1 → A2 → A3 → A4 → Heap → List Loc → Array Slot → Prop) (μ : A1 → A2 → A3 → A4 → Nat) (hs : ∀ (a1 : A1) (a2 : A2) (a3 : A3) (a4 : A4) (H : Heap) (locs : List Loc) (ls : Array Slot), I a1 a2 a3 a4 H locs ls → (∀ (b1 : A1) (b2 : A2) (b3 : A3) (b4 : A4) (H' : Heap) (locs' : List Loc) (ls' : Array Slot), μ b1 b2 b3 b4 < μ a1 a2 a3 a4 → I b1 b2 b3 b4 H' locs' ls' → Wg H' locs' ls') → Wg H locs ls) : ∀ (a1 : A1) (a2 : A2) (a3 : A3) (a4 : A4) (H : Heap) (locs : List Loc) (ls : Array Slot), I a1 a2 a3 a4 H locs ls → Wg H locs ls :=
  fun a1 a2 a3 a4 => lp_w1 (A1 := A1 × A2 × A3 × A4) (fun a => I a.1 a.2.1 a.2.2.1 a.2.2.2) (fun a => μ a.1 a.2.1 a.2.2.1 a.2.2.2) (fun a H locs ls hI ih => hs a.1 a.2.1 a.2.2.1 a.2.2.2 H locs ls hI (fun b1 b2 b3 b4 => ih (b1, b2, b3, b4))) (a1, a2, a3, a4)
end GR
