/-- the words that every method is given: those of the tables that stay good -/
def zw_G : List Cond := lw_tbl.filter goodWord
theorem zw_mem {w : Cond} (i : Nat) (hi : lw_tbl[i]? = some w) (hg : goodWord w = true) : w ∈ zw_G := List.mem_filter.mpr ⟨List.mem_of_getElem? hi, hg⟩
theorem zw_sub {ws : List Cond} (ps : List Nat) (hp : ws = ps.filterMap (fun i => lw_tbl[i]?)) (hg : ws.all goodWord = true) : ∀ w ∈ ws, w ∈ zw_G := by
  intro w hw
  have h1 := List.all_eq_true.mp hg w hw
  rw [hp] at hw
  obtain ⟨i, -, hi⟩ := List.mem_filterMap.mp hw
  exact List.mem_filter.mpr ⟨List.mem_of_getElem? hi, h1⟩
theorem zw_in {w w0 : Cond} (h : w ∈ zw_G) : w ∈ w0 :: zw_G := List.mem_cons_of_mem _ h
theorem zw_good {w0 : Cond} {z : MethodName} {bz : ByteArray} {nz : Nat} {rz : Option FieldType} (hz : Cond.code z bz nz rz ∈ zw_G) : GoodIn (w0 :: zw_G) (Cond.code z bz nz rz :: zw_G) := by
  have key : ∀ w ∈ zw_G, w ∈ w0 :: zw_G ∧ ((w.onTables && w.keeps) = true ∨ ∃ ty, w = .arrayClass ty) := fun w h => ⟨zw_in h, good_of_word (List.mem_filter.mp h).2⟩
  intro w hw
  rcases List.mem_cons.mp hw with h | h
  · rw [h]; exact key _ hz
  · exact key _ h
def zw_rm (d : Nat) : Room := { frames := d, cells := 0, slots := 0, locals := 30 * d }
/-- an instance method's package; a static one's -/
def zw_Vt (y : MethodName) (bytes : ByteArray) (maxL : Nat) (ret : Option FieldType) (n : Nat) : Prop := Cond.instanceMethod y ∈ zw_G ∧ Cond.selects y.cls y y ∈ zw_G ∧ Cond.initialized y.cls ∈ zw_G ∧ Cond.code y bytes maxL ret ∈ zw_G ∧ y.cls ≠ "java/lang/invoke/MethodHandle" ∧ y.cls ≠ "java/lang/invoke/VarHandle" ∧ (parseMethodDescriptor y.desc).map (fun d => d.parameters.length) = some n
def zw_St (y : MethodName) (bytes : ByteArray) (maxL : Nat) (ret : Option FieldType) (n : Nat) : Prop := Cond.static y ∈ zw_G ∧ Cond.initialized y.cls ∈ zw_G ∧ Cond.code y bytes maxL ret ∈ zw_G ∧ y.cls ≠ "java/lang/invoke/MethodHandle" ∧ y.cls ≠ "java/lang/invoke/VarHandle" ∧ (parseMethodDescriptor y.desc).map (fun d => d.parameters.length) = some n
def zs_B (v : Int32) : Prop := v = 0 ∨ v = 1
theorem zs_nz {v : Int32} (h : zs_B v) : narrow .boolean (.int v) = .int v := by rcases h with rfl | rfl <;> rfl
theorem zs_fz {v : Int32} (h : zs_B v) : fits .boolean (.int v) = true := by rcases h with rfl | rfl <;> rfl
theorem zs_vz {v : Int32} (h : zs_B v) : vp_nar .boolean v = v := by rcases h with rfl | rfl <;> rfl
theorem zs_lt {i : Int32} {n : Nat} (h : vp_in i n) : i.toNatClampNeg < n := Nat.not_le.mp fun q => h (Or.inr q)
section ZK
variable {p : Program} {l : Launch} {e : Env} {s : State} {m : MethodId} {args : Array Value} {below : List Frame} {meth : Method} {c : Code} {D : va_G} {tys : List (ClassId × FieldType)} {N : Nat} {ad : Nat → Nat} {wf : zs_T → Nat → va_E} {nL : Nat} {cc : ByteArray} {w0 : Cond} {own : String} {ov : Int32 → Option Value} {out : zs_O} {σ : zs_T} {pc d : Nat} {lv : List (Nat × Value)} {st rest : List Value}
theorem zk_callVi (C : zs_C p s m args meth c cc nL (w0 :: zw_G) own D vwCl tys N ad) {y : MethodName} {bytes : ByteArray} {maxL n index q0 ci : Nat} {ret : Option FieldType} {As : List Value} {out1 : zs_O} {fs : List Value} {q2 : u_T × Nat} (pk : zw_Vt y bytes maxL ret n) (hmx : maxL ≤ 11) (hlink : Cond.methodLink own index y ∈ zw_G) (hM : zs_M l D vwCl tys N ad wf y (Cond.code y bytes maxL ret :: zw_G) (zw_rm d) (.ref (ad q0) :: As) zs_vi σ out1) (he : q0 < N ∧ wf σ q0 = .inr (ci, fs)) (hc : vwCl[ci]? = some (y.cls, q2)) (hn : As.length = n) {st0 : List Value} (hst : st0 = As.reverse ++ .ref (ad q0) :: rest) (hW : (rest.map fun v => v.category).sum ≤ 8) (hdg : decode cc pc = .ok (.invokevirtual index, 3))
    (kk : zs_Z p l e (zw_rm (d + 1)) s m args below meth c D vwCl N ad wf nL ov out out1.1 (pc + 3) lv (.int out1.2 :: rest)) : zs_Z p l e (zw_rm (d + 1)) s m args below meth c D vwCl N ad wf nL ov out σ pc lv (st0) := by
  obtain ⟨p1, p2, p3, p4, p5⟩ := pk
  have hts := C.1.2.2.2.2
  exact zs_callVi (q1 := (y.cls, q2)) C hM ⟨callB_of n hts (zw_good p4) rfl rfl rfl (hts _ (zw_in p3)) (hts _ (zw_in hlink)) p5 ⟨Nat.le_refl _, by show 8 + (maxL + 11) + 30 * d ≤ 30 * (d + 1); omega⟩, hts _ (zw_in p1), hts _ (zw_in p2)⟩ he.1 he.2 hc hn hst hW hdg kk
theorem zk_callSi (C : zs_C p s m args meth c cc nL (w0 :: zw_G) own D vwCl tys N ad) {y : MethodName} {bytes : ByteArray} {maxL n index : Nat} {ret : Option FieldType} {As : List Value} {out1 : zs_O} (pk : zw_St y bytes maxL ret n) (hmx : maxL ≤ 11) (hlink : Cond.methodLink own index y ∈ zw_G) (hM : zs_M l D vwCl tys N ad wf y (Cond.code y bytes maxL ret :: zw_G) (zw_rm d) As zs_vi σ out1) (hn : As.length = n) {st0 : List Value} (hst : st0 = As.reverse ++ rest) (hW : (rest.map fun v => v.category).sum ≤ 8) (hdg : decode cc pc = .ok (.invokestatic index, 3))
    (kk : zs_Z p l e (zw_rm (d + 1)) s m args below meth c D vwCl N ad wf nL ov out out1.1 (pc + 3) lv (.int out1.2 :: rest)) : zs_Z p l e (zw_rm (d + 1)) s m args below meth c D vwCl N ad wf nL ov out σ pc lv (st0) := by
  obtain ⟨p1, p3, p4, p5⟩ := pk
  have hts := C.1.2.2.2.2
  exact zs_callSi C hM ⟨callB_of n hts (zw_good p4) rfl rfl rfl (hts _ (zw_in p3)) (hts _ (zw_in hlink)) p5 ⟨Nat.le_refl _, by show 8 + (maxL + 11) + 30 * d ≤ 30 * (d + 1); omega⟩, hts _ (zw_in p1)⟩ hn hst hW hdg kk
theorem zk_callVv (C : zs_C p s m args meth c cc nL (w0 :: zw_G) own D vwCl tys N ad) {y : MethodName} {bytes : ByteArray} {maxL n index q0 ci : Nat} {ret : Option FieldType} {As : List Value} {out1 : zs_O} {fs : List Value} {q2 : u_T × Nat} (pk : zw_Vt y bytes maxL ret n) (hmx : maxL ≤ 11) (hlink : Cond.methodLink own index y ∈ zw_G) (hM : zs_M l D vwCl tys N ad wf y (Cond.code y bytes maxL ret :: zw_G) (zw_rm d) (.ref (ad q0) :: As) zs_vv σ out1) (he : q0 < N ∧ wf σ q0 = .inr (ci, fs)) (hc : vwCl[ci]? = some (y.cls, q2)) (hn : As.length = n) {st0 : List Value} (hst : st0 = As.reverse ++ .ref (ad q0) :: rest) (hW : (rest.map fun v => v.category).sum ≤ 8) (hdg : decode cc pc = .ok (.invokevirtual index, 3))
    (kk : zs_Z p l e (zw_rm (d + 1)) s m args below meth c D vwCl N ad wf nL ov out out1.1 (pc + 3) lv (rest)) : zs_Z p l e (zw_rm (d + 1)) s m args below meth c D vwCl N ad wf nL ov out σ pc lv (st0) := by
  obtain ⟨p1, p2, p3, p4, p5⟩ := pk
  have hts := C.1.2.2.2.2
  exact zs_callVv (q1 := (y.cls, q2)) C hM ⟨callB_of n hts (zw_good p4) rfl rfl rfl (hts _ (zw_in p3)) (hts _ (zw_in hlink)) p5 ⟨Nat.le_refl _, by show 8 + (maxL + 11) + 30 * d ≤ 30 * (d + 1); omega⟩, hts _ (zw_in p1), hts _ (zw_in p2)⟩ he.1 he.2 hc hn hst hW hdg kk
theorem zk_callSv (C : zs_C p s m args meth c cc nL (w0 :: zw_G) own D vwCl tys N ad) {y : MethodName} {bytes : ByteArray} {maxL n index : Nat} {ret : Option FieldType} {As : List Value} {out1 : zs_O} (pk : zw_St y bytes maxL ret n) (hmx : maxL ≤ 11) (hlink : Cond.methodLink own index y ∈ zw_G) (hM : zs_M l D vwCl tys N ad wf y (Cond.code y bytes maxL ret :: zw_G) (zw_rm d) As zs_vv σ out1) (hn : As.length = n) {st0 : List Value} (hst : st0 = As.reverse ++ rest) (hW : (rest.map fun v => v.category).sum ≤ 8) (hdg : decode cc pc = .ok (.invokestatic index, 3))
    (kk : zs_Z p l e (zw_rm (d + 1)) s m args below meth c D vwCl N ad wf nL ov out out1.1 (pc + 3) lv (rest)) : zs_Z p l e (zw_rm (d + 1)) s m args below meth c D vwCl N ad wf nL ov out σ pc lv (st0) := by
  obtain ⟨p1, p3, p4, p5⟩ := pk
  have hts := C.1.2.2.2.2
  exact zs_callSv C hM ⟨callB_of n hts (zw_good p4) rfl rfl rfl (hts _ (zw_in p3)) (hts _ (zw_in hlink)) p5 ⟨Nat.le_refl _, by show 8 + (maxL + 11) + 30 * d ≤ 30 * (d + 1); omega⟩, hts _ (zw_in p1)⟩ hn hst hW hdg kk
end ZK
theorem zw_fX0 : ∀ w ∈ u_ws RX0 TX0 8, w ∈ zw_G := zw_sub [82, 84, 86, 88, 90, 92, 94, 96] (by decide +kernel) (by decide +kernel)
theorem zw_fX1 : ∀ w ∈ u_ws RX1 TX1 2, w ∈ zw_G := zw_sub [114, 116] (by decide +kernel) (by decide +kernel)
theorem zw_fX2 : ∀ w ∈ u_ws RX2 TX2 19, w ∈ zw_G := zw_sub [157, 159, 161, 163, 165, 167, 169, 171, 173, 175, 177, 179, 181, 183, 185, 187, 189, 191, 193] (by decide +kernel) (by decide +kernel)
theorem zw_fX3 : ∀ w ∈ u_ws RX3 TX3 6, w ∈ zw_G := zw_sub [216, 218, 220, 222, 224, 226] (by decide +kernel) (by decide +kernel)
theorem zw_fX4 : ∀ w ∈ u_ws RX4 TX4 34, w ∈ zw_G := zw_sub [550, 552, 554, 556, 558, 560, 562, 564, 566, 568, 570, 572, 574, 576, 578, 580, 582, 584, 586, 588, 590, 592, 594, 596, 598, 600, 602, 604, 606, 608, 610, 612, 614, 616] (by decide +kernel) (by decide +kernel)
