section GQ2
variable {p : Program} {l : Launch} {e : Env} {R : Room} {s : State} {m : MethodId} {args : Array Value} {below : List Frame} {meth : Method} {c : Code} {H : Heap} {locs : List Loc} {cells slots : Nat} {Q : State → Prop}
variable {cc : ByteArray} {pc : Nat} {ls : Array Slot} {rest : List Value} {D : va_G} {B0 : Nat} {f : gF}
theorem iI_max {x y : Int} (hx : rI x) (hy : rI y) : (if iI x < iI y then iI y else iI x) = iI (if x < y then y else x) := by
  by_cases h : x < y
  · rw [if_pos h, if_pos ((iI_lt hx hy).mpr h)]
  · rw [if_neg h, if_neg (fun h2 => h ((iI_lt hx hy).mp h2))]
theorem g_aretA (hexec : p.tables.exec = Jvm.exec) (hb : c.code = cc) {v : Value} {t : FieldType} {post : Option Value → gF → Prop} (hr : meth.sig.returnType = some (.array t)) (hv : v = .null ∨ ∃ a, v = .ref a) (hW : gW D B0 s f H locs) (hp : post (some v) f) (hdg : decode cc pc = .ok (.areturn, 1)) (hlocks : meth.locks = false) : W p l e R s m args below meth c H locs cells slots (MQ below (gQ D B0 post) args s cells slots (fun q : Nat => B0 ≤ q)) (F0 m pc ls [v]) :=
  W.aret hexec hb hr (Or.inr ⟨t, rfl⟩) hv (fun t ht _ => ⟨⟨_, f, rfl, hp, by rw [ht]; exact hW.1⟩, hW.2.1.F ht⟩) hW.2.1.2.2 hdg hlocks
theorem nI_nn (n : Nat) (h : n ≤ 100000) : ¬ iI (n : Int) < 0 := by
  rw [show (0 : Int32) = iI 0 from rfl, iI_lt ⟨by omega, by omega⟩ ⟨by decide, by decide⟩]
  omega
theorem nI_cl (n : Nat) (h : n ≤ 100000) : (iI (n : Int)).toNatClampNeg = n := by
  rw [iI_clamp ⟨by omega, by omega⟩]
  omega
end GQ2
set_option maxHeartbeats 4000000 in
set_option maxRecDepth 100000 in
theorem c_J8_newLength_cabcc {l : Launch} {D : va_G} {cy : Nat → ClassId} {B0 : Nat} {f : gF} (x : Int) (y : Int) (z : Int) (hx0 : 0 ≤ x ∧ x ≤ 100000) (hy : 1 ≤ y ∧ y ≤ 100000) (hz : 0 ≤ z ∧ z ≤ 100000)  : gM l yJ8_newLength_cabcc vJ8_newLength_cabcc 2 46 D cy B0 [.int (iI (x)), .int (iI (y)), .int (iI (z))] (f) (fun r g_ => r = some (.int (iI (x + (if y < z then z else y)))) ∧ g_ = f) 0 0 := by
  refine g_start (cc := cJ8_newLength_cabcc) (maxL := 4) (ret := (some .int)) (by decide) rfl (Nat.le_of_ble_eq_true rfl) ?_
  intro p_ e_ s_ m_ be_ me_ co_ ls H locs K hr hlk hnm hK hW hl
  obtain ⟨hx, hb, hml, hown, hts⟩ := id K
  have hl : lv_has ls 4 [(0, .int (iI (x))), (1, .int (iI (y))), (2, .int (iI (z)))] := hl
  have hm : 1 ≤ (if y < z then z else y) ∧ (if y < z then z else y) ≤ 100000 := by split <;> omega
  refine lv_iload_n hx hb dJ8_newLength_cabcc_0 rfl (lv_at hl 0 rfl) ?_
  refine lv_iload_n hx hb dJ8_newLength_cabcc_1 rfl (lv_at hl 1 rfl) ?_
  refine lv_iload_n hx hb dJ8_newLength_cabcc_2 rfl (lv_at hl 2 rfl) ?_
  refine va_mmax hx hb (by rw [hml]; exact hl.1.symm) hown (hts _ (wsC_sub _ wsCw_70)) (hts _ (wsC_sub _ wsCw_24)) (hts _ (wsC_sub _ wsCw_25)) (hts _ (wsC_sub _ wsCw_26)) (Nat.le_of_ble_eq_true rfl) (Nat.le_of_ble_eq_true rfl) (Nat.le_of_ble_eq_true rfl) (Nat.le_of_ble_eq_true rfl) dJ8_newLength_cabcc_3 ?_
  rw [iI_max ⟨by omega, by omega⟩ ⟨by omega, by omega⟩]
  refine xi_iadd hx hb dJ8_newLength_cabcc_6 ?_
  refine lv_istore_n (lv' := [(3, .int (iI (x + (if y < z then z else y)))), (0, .int (iI (x))), (1, .int (iI (y))), (2, .int (iI (z)))]) hx hb dJ8_newLength_cabcc_7 rfl hl (by decide) rfl (fun ls hl => ?_)
  refine xi_iconst hx hb dJ8_newLength_cabcc_8 ?_
  refine lv_iload_n hx hb dJ8_newLength_cabcc_9 rfl (lv_at hl 0 rfl) ?_
  refine xi_icmp_ge (tgt := 21) hx hb ⟨by omega, by omega⟩ ⟨by omega, by omega⟩ dJ8_newLength_cabcc_10 (by decide) (fun c_1 => ?_) (fun c_1 => ?_)
  · omega
  · refine lv_iload_n hx hb dJ8_newLength_cabcc_13 rfl (lv_at hl 0 rfl) ?_
    refine xi_ldc hx hb 2147483639 (by decide) hown (hts _ kC_J8_200) dJ8_newLength_cabcc_14 ?_
    refine xi_icmp_gt (tgt := 21) hx hb ⟨by omega, by omega⟩ ⟨by omega, by omega⟩ dJ8_newLength_cabcc_16 (by decide) (fun c_2 => ?_) (fun c_2 => ?_)
    · omega
    · refine lv_iload_n hx hb dJ8_newLength_cabcc_19 rfl (lv_at hl 0 rfl) ?_
      exact g_iret hx hb hr hW ⟨rfl, rfl⟩ dJ8_newLength_cabcc_20 hlk
set_option maxHeartbeats 4000000 in
set_option maxRecDepth 100000 in
theorem c_J7_copyOf_6403c {l : Launch} {D : va_G} {cy : Nat → ClassId} {B0 : Nat} {f : gF} {i a n0 : Nat} {g : Nat → Option Nat} (j n1 : Nat) (hi : f i = some (a, cO cy n0 g)) (hij : i ≠ j) (hn : n0 ≤ n1) (hn1 : n1 ≤ 100000) {ci N : Nat} {C : String} {T : u_T} (hc : vwCl[ci]? = some (C, T, N)) (hcan : (.castable C "java/lang/Object") ∈ gNs) (hel : ∀ (x y : Nat), g x = some y → ∃ (k : Nat) (vs : List Value), f k = some (y, .inr (ci, vs)) ∧ k ≠ j) :
    gM l yJ7_copyOf_6403c vJ7_copyOf_6403c 1 24 D cy B0 [.ref a, .int (iI (n1 : Int)), .ref (D.1 24)] f (fun r g_ => ∃ q : Nat, r = some (.ref q) ∧ g_ = gup f j q (cO cy n1 (va_cpy g (fun _ => none) 0 0 n0))) 1 n1 := by
  refine g_start0 (cc := cJ7_copyOf_6403c) (maxL := 4) (ret := some (.array (.object "java/lang/Object"))) (by decide) rfl (Nat.le_of_ble_eq_true rfl) ?_
  intro p_ e_ s_ m_ be_ me_ co_ ls H K hr hlk hnm hK hW hl
  obtain ⟨hx, hb, hml, hown, hts⟩ := id K
  have hl : lv_has ls 4 [(0, .ref a), (1, .int (iI (n1 : Int))), (2, .ref (D.1 24))] := hl
  refine lv_aload_n hx hb dJ7_copyOf_6403c_0 rfl (lv_at hl 2 rfl) ?_
  refine va_ldcM hx hb hown (hts _ hC_J7_110) hK.2.2.2.2.1 dJ7_copyOf_6403c_1 ?_
  refine lv_acmp_ne (rx := some (D.1 24)) (ry := some (D.1 24)) (tgt := 13) hx hb dJ7_copyOf_6403c_3 (by decide) (fun h => absurd rfl h) (fun _ => ?_)
  refine lv_iload_n hx hb dJ7_copyOf_6403c_6 rfl (lv_at hl 1 rfl) ?_
  refine g_newq hx hb hown (hts _ hC_J7_2) hK hW j (N' := n1) (nI_nn n1 hn1) (nI_cl n1 hn1) (by omega) (Nat.le_refl _) (by show 0 + n1 ≤ n1; omega) dJ7_copyOf_6403c_7 (fun q H hW hne => ?_)
  refine lv_goto (tgt := 24) hx hb dJ7_copyOf_6403c_10 (by decide) ?_
  refine lv_astore_n (lv' := [(3, .ref q), (0, .ref a), (1, .int (iI (n1 : Int))), (2, .ref (D.1 24))]) hx hb dJ7_copyOf_6403c_24 rfl hl (by decide) rfl (fun ls hl => ?_)
  refine lv_aload_n hx hb dJ7_copyOf_6403c_25 rfl (lv_at hl 1 rfl) ?_
  refine xi_iconst hx hb dJ7_copyOf_6403c_26 ?_
  refine lv_aload_n hx hb dJ7_copyOf_6403c_27 rfl (lv_at hl 0 rfl) ?_
  refine xi_iconst hx hb dJ7_copyOf_6403c_28 ?_
  refine lv_aload_n hx hb dJ7_copyOf_6403c_29 rfl (lv_at hl 1 rfl) ?_
  have hi2 : gup f j q (cO cy n1 (fun _ => none)) i = some (a, cO cy n0 g) := by rw [gup_n _ _ _ hij]; exact hi
  refine g_alen hx hb hK hW i hi2 (ci := 3) (ty := .object "java/lang/Object") rfl (v := iI (n0 : Int)) (iI_nI n0) dJ7_copyOf_6403c_30 ?_
  refine lv_iload_n hx hb dJ7_copyOf_6403c_31 rfl (lv_at hl 2 rfl) ?_
  refine va_mmin hx hb (by rw [hml]; exact hl.1.symm) hown (hts _ (wsC_sub _ wsCw_77)) (hts _ (wsC_sub _ wsCw_78)) (hts _ (wsC_sub _ wsCw_25)) (hts _ (wsC_sub _ wsCw_79)) (Nat.le_of_ble_eq_true rfl) (Nat.le_of_ble_eq_true rfl) (Nat.le_refl _) (by show 0 + n1 ≤ n1; omega) dJ7_copyOf_6403c_32 ?_
  rw [iI_min ⟨by omega, by omega⟩ ⟨by omega, by omega⟩, if_neg (show ¬ (n1 : Int) < n0 by omega)]
  refine g_copyq hx hb (by rw [hml]; exact hl.1.symm) hown (hts _ (wsC_sub _ wsCw_80)) (hts _ (wsC_sub _ wsCw_81)) (hts _ (wsC_sub _ wsCw_82)) (hts _ (wsC_sub _ wsCw_83)) hK hW i j hij hi2 (gup_s _ _ _ _) (nI_nn n0 (by omega)) (by rw [nI_cl n0 (by omega)]; exact Nat.le_refl _) (by rw [nI_cl n0 (by omega)]; exact hn) hc (hK.2.1 _ hcan) (fun x y hy => ?_) (Nat.le_of_ble_eq_true rfl) (show 0 + (nativeFrameWords "java/lang/System" "arraycopy" 5 + 11) ≤ 24 by decide +kernel) dJ7_copyOf_6403c_35 (fun H locs hW => ?_)
  · obtain ⟨k, vs, hk, hkj⟩ := hel x y hy
    exact ⟨k, vs, by rw [gup_n _ _ _ hkj]; exact hk⟩
  rw [gup_gup, nI_cl n0 (by omega)] at hW
  refine lv_aload_n hx hb dJ7_copyOf_6403c_38 rfl (lv_at hl 0 rfl) ?_
  exact W.widen (Nat.le_refl _) (by show 0 + n1 ≤ n1; omega) (g_aretA hx hb hr (Or.inr ⟨_, rfl⟩) hW ⟨q, rfl, rfl⟩ dJ7_copyOf_6403c_39 hlk)
