def zx_N : String := "java/util/NoSuchElementException"
abbrev zx_b1 : ByteArray := prog_11_method_4_code
def zx_ws : List Cond := (zx_own RX3 65 zx_N 13 zx_b1 "java/lang/RuntimeException" ["java/lang/Exception"]).filter vx_no
abbrev zx_bad : List Cond := [.declares (Bundle.initS "java/lang/RuntimeException"), .declares (Bundle.initS "java/lang/Exception"), .declares (Bundle.initS Bundle.tN), .castable zx_N zx_N]
set_option maxRecDepth 20000 in
theorem zx_good : ∀ w ∈ zx_ws.filter goodWord, w ∈ zw_G := zw_sub [45, 449, 458, 460, 463, 465, 450, 451, 55, 56, 452, 457, 461, 481, 439, 482, 441, 483, 443, 453, 455, 445, 477, 478, 480, 445, 468, 469, 470, 471, 471, 472, 473, 474, 474, 475, 476, 477, 467, 428, 436, 437, 438, 440, 442, 444, 448, 447, 446] (by decide +kernel) (by decide +kernel)
set_option maxRecDepth 20000 in
theorem zx_isbad : zx_ws.filter (fun w => !goodWord w) = zx_bad := by decide +kernel
set_option maxRecDepth 20000 in
theorem zx_ot : ∀ w ∈ Cond.classLink RX3 61 zx_N :: Cond.initialized zx_N :: zx_ws, vx_ot w = true := by
  have h : (Cond.classLink RX3 61 zx_N :: Cond.initialized zx_N :: zx_ws).all vx_ot = true := by decide +kernel
  exact fun w hw => List.all_eq_true.mp h w hw
theorem zx_cl : Cond.classLink RX3 61 zx_N ∈ zw_G := zw_mem 427 (by decide +kernel) rfl
theorem zx_in : Cond.initialized zx_N ∈ zw_G := zw_mem 48 (by decide +kernel) rfl
theorem zx_d0 : decode zx_b1 0 = .ok (.aload_n 0, 1) := by decide +kernel
theorem zx_d1 : decode zx_b1 1 = .ok (.aload_n 1, 1) := by decide +kernel
theorem zx_d2 : decode zx_b1 2 = .ok (.invokespecial 13, 3) := by decide +kernel
theorem zx_d5 : decode zx_b1 5 = .ok (.return_, 1) := by decide +kernel
/-- what a throw needs beside the good words -/
def zx_P (A : Nat → Prop) (U : State) : Prop :=
  (va_Nw (.declares (Bundle.initS "java/lang/RuntimeException")) U ∧ va_Nw (.declares (Bundle.initS "java/lang/Exception")) U ∧ va_Nw (.declares (Bundle.initS Bundle.tN)) U ∧ va_Nw (.castable zx_N zx_N) U) ∧
  ((∃ a, vk_R RX3 63 "no such process" a U) ∧ (∃ a, vk_R RX3 101 "a process has no such number" a U) ∧ (∃ a, vk_R RX3 106 "no such node" a U) ∧ (∃ a, vk_R RX3 133 "a node has no such number" a U)) ∧
  vx_Zq Bundle.tN "UNASSIGNED_STACK" Bundle.steD A U U.heap ∧ vx_Zq Bundle.tN "SUPPRESSED_SENTINEL" Bundle.listD A U U.heap
theorem zx_Pcall {A : Nat → Prop} {U V : State} (hv : U.vm = V.vm) (hh : U.heap = V.heap) (h : zx_P A U) : zx_P A V := by
  obtain ⟨⟨h1, h2, h3, h4⟩, ⟨⟨a, ha⟩, ⟨b, hb⟩, ⟨c, hc⟩, ⟨d, hd⟩⟩, hU, hN⟩ := h
  have al : U.vm.Alike V.vm := by rw [hv]; exact Vm.Alike.refl _
  exact ⟨⟨va_Nw.same rfl hv h1, va_Nw.same rfl hv h2, va_Nw.same rfl hv h3, va_Nw.same rfl hv h4⟩, ⟨⟨a, vk_R.same hv.symm ha⟩, ⟨b, vk_R.same hv.symm hb⟩, ⟨c, vk_R.same hv.symm hc⟩, ⟨d, vk_R.same hv.symm hd⟩⟩, by rw [← hh]; exact vx_Zq.moved al hU, by rw [← hh]; exact vx_Zq.moved al hN⟩
theorem zx_Pwarm {A B : Nat → Prop} {s U : State} {locs : List Loc} (h : zx_P A s) (hW : s.WarmedH U.vm) (hS : va_S A s.heap U.heap locs) (hB : ∀ q, B q → A q) : zx_P B U := by
  obtain ⟨⟨h1, h2, h3, h4⟩, ⟨⟨a, ha⟩, ⟨b, hb⟩, ⟨c, hc⟩, ⟨d, hd⟩⟩, hU, hN⟩ := h
  exact ⟨⟨va_Nw.warmD hW h1, va_Nw.warmD hW h2, va_Nw.warmD hW h3, va_Nw.warmC hW h4⟩, ⟨⟨a, vk_R.warm hW ha⟩, ⟨b, vk_R.warm hW hb⟩, ⟨c, vk_R.warm hW hc⟩, ⟨d, vk_R.warm hW hd⟩⟩, (vx_Zq.moved hW.alike (hU.kept hS.2.1)).narrow hB, (vx_Zq.moved hW.alike (hN.kept hS.2.1)).narrow hB⟩
theorem zx_hat {A : Nat → Prop} {Ts : List Cond} {args : Array Value} {s : State} (hsub : ∀ w ∈ zw_G, w ∈ Ts) (hts : ∀ w ∈ Ts, w.before args s = true) (h : zx_P A s) : ∀ w ∈ zx_ws, w.before args s = true := by
  obtain ⟨⟨h1, h2, h3, h4⟩, -⟩ := h
  refine vx_hat (B := zx_bad) (fun w hw => hts w (hsub w (zx_good w hw))) (fun w hw => by rw [zx_isbad] at hw; exact hw) ?_
  exact vx_c (va_Nw.use rfl h1) (vx_c (va_Nw.use rfl h2) (vx_c (va_Nw.use rfl h3) (vx_c (va_Nw.use rfl h4) vx_n)))
/-- what a class's method leaves when it throws -/
def zx_X (D : va_G) (N : Nat) (ad : Nat → Nat) (cf : Nat → va_E) (sz : Nat) : String → State → State → Prop := fun E st t => E = zx_N ∧ va_P D vwCl (zs_wl N ad cf) t.heap ∧ va_F (zs_A N ad sz) st t
/-- a contract of a method that throws, whatever it is asked -/
def zx_M (l : Launch) (D : va_G) (tys : List (ClassId × FieldType)) (N : Nat) (ad : Nat → Nat) (cf : Nat → va_E) (y : MethodName) (ws : List Cond) (rm : Room) (av : List Value) : Prop :=
  ∀ sz : Nat, vx_Met l y ws rm (va_Pc av (fun U => U.heap.size = sz ∧ va_P D vwCl (zs_wl N ad cf) U.heap ∧ va_K D vwCl tys U ∧ zx_P (zs_A N ad sz) U)) (fun _ _ _ _ => False) (zx_X D N ad cf sz) 1 6 (zs_A N ad sz)
theorem zx_ofZ {l : Launch} {D : va_G} {tys : List (ClassId × FieldType)} {N : Nat} {ad : Nat → Nat} {cf : Nat → va_E} {y : MethodName} {ws ws' : List Cond} {rm : Room} {av : List Value} {cc : ByteArray} {nL : Nat} {ret : Option FieldType} {lv0 : List (Nat × Value)} (hy : plainName y.cls = true) (hw : ws = Cond.code y cc nL ret :: ws') (hJ : zs_J N ad) (hav : (lg_sl av).length ≤ nL) (hlv : lv_args 0 av = lv0)
    (body : ∀ (p : Program) (e : Env) (s : State) (m : MethodId) (args : Array Value) (below : List Frame) (meth : Method) (c : Code), zn_C p s m args meth c cc nL ws y.cls D vwCl tys (zs_A N ad s.heap.size) → (∀ x ∈ c.exceptionTable.toList, False) → zx_P (zs_A N ad s.heap.size) s → zn_Z p l e rm s m args below meth c D vwCl (zs_A N ad s.heap.size) nL (vx_MQ below (fun _ _ _ _ => False) (zx_X D N ad cf s.heap.size) args s 1 6 (zs_A N ad s.heap.size)) (zs_wl N ad cf) 0 0 0 lv0 []) : zx_M l D tys N ad cf y ws rm av := by
  intro sz
  refine vx_ofW (cc := cc) (maxL := nL) (ret := ret) hy hw ?_
  intro p e s m args below meth c s₁ B hml htab hv
  obtain ⟨rfl, hsz, hP, hK, hX⟩ := hv
  subst hsz
  subst hlv
  have hl := lv_entry av (n := nL) hav
  rw [lg_entry_eq]
  exact body p e s m av.toArray below meth c ⟨⟨B.exec, B.bytes, hml, findClass_of_methodNamed B.named, atoms_spec (ws := ws) B.pre⟩, hK, fun q h => Or.inr h, B.notSynchronized⟩ htab hX s.heap [] _ hP (zs_D hJ) va_S.rf hl
section ZXC
variable {p : Program} {l : Launch} {e : Env} {s : State} {m : MethodId} {args : Array Value} {below : List Frame} {meth : Method} {c : Code} {D : va_G} {tys : List (ClassId × FieldType)} {N : Nat} {ad : Nat → Nat} {cf : Nat → va_E} {nL : Nat} {cc : ByteArray} {w0 : Cond} {pc : Nat} {lv : List (Nat × Value)}
theorem zn_throw (hl0 : l.stackTraces = false) (C : zn_C p s m args meth c cc nL (w0 :: zw_G) RX3 D vwCl tys (zs_A N ad s.heap.size)) (htab : ∀ x ∈ c.exceptionTable.toList, False) (hX : zx_P (zs_A N ad s.heap.size) s) {is : Nat} {text : String} (hs : ∃ a, vk_R RX3 is text a s)
    (d0 : decode cc pc = .ok (.new 61, 3)) (d3 : decode cc (pc + 3) = .ok (.dup, 1)) (d4 : decode cc (pc + 4) = .ok (.ldc is, 2)) (d6 : decode cc (pc + 6) = .ok (.invokespecial 65, 3)) (d9 : decode cc (pc + 9) = .ok (.athrow, 1)) :
    zn_Z p l e (zn_rm 6 1 6) s m args below meth c D vwCl (zs_A N ad s.heap.size) nL (vx_MQ below (fun _ _ _ _ => False) (zx_X D N ad cf s.heap.size) args s 1 6 (zs_A N ad s.heap.size)) (zs_wl N ad cf) 0 0 pc lv [] := by
  intro H locs ls hP hD hS hl
  obtain ⟨a, ha⟩ := hs
  refine zx_throwS (own := RX3) (cls := zx_N) (text := text) (Y := "java/lang/RuntimeException") (r := ["java/lang/Exception"]) (b1 := zx_b1) (ik := 61) (is := is) (ic := 65) (i1 := 13) (sa := a) (A := zs_A N ad s.heap.size) C.1.1 C.1.2.1 hl0 (by decide +kernel) zx_d0 zx_d1 zx_d2 zx_d5 C.1.2.2.2.1 (by decide +kernel) (by decide +kernel) (C.1.2.2.2.2 _ (zw_in zx_cl)) (C.1.2.2.2.2 _ (zw_in zx_in)) ha (zx_hat (fun w h => zw_in h) C.1.2.2.2.2 hX) zx_ot hX.2.2.1 hX.2.2.2 hS (by rw [C.1.2.2.1]; exact hl.1) d0 d3 d4 d6 d9 (fun x hx => absurd hx (fun z => htab x z)) (by decide) (by decide) (by decide) (by decide) C.2.2.2 ?_ hS.2.2 (by decide) (by decide)
  intro t hal hz hk
  refine ⟨rfl, ?_, ?_⟩
  · exact hP.kept (fun k x hx => hk x.1 ((hP k x hx).lt))
  · exact ⟨Nat.le_trans hS.1 hz, fun q h1 h2 => (hk q (Nat.lt_of_lt_of_le h1 hS.1)).trans (hS.2.1 q h1 h2)⟩
end ZXC
section ZNT
variable {p : Program} {l : Launch} {e : Env} {R : Room} {s : State} {m : MethodId} {args : Array Value} {below : List Frame} {meth : Method} {c : Code} {D : va_G} {cl : List vw_C} {tys : List (ClassId × FieldType)} {A : Nat → Prop} {nL : Nat} {Q : State → Prop} {ws : va_W} {k n : Nat} {cc : ByteArray} {Ts : List Cond} {own : String} {pc : Nat} {lv : List (Nat × Value)} {st : List Value}
theorem zn_tabOut (C : zn_C p s m args meth c cc nL Ts own D cl tys A) {dflt lo hi : Int} {offs : Array Int} {len : Nat} {x : Int32} {tgt : Nat} (hdg : decode cc pc = .ok (.tableswitch dflt lo hi offs, len)) (h : x.toInt < lo ∨ hi < x.toInt) (ht : (pc : Int) + dflt = (tgt : Int)) (kk : zn_Z p l e R s m args below meth c D cl A nL Q ws k n tgt lv st) : zn_Z p l e R s m args below meth c D cl A nL Q ws k n pc lv (.int x :: st) :=
  fun H locs ls hP hD hS hl => lv_tableOut C.1.1 C.1.2.1 hdg h ht (kk H locs ls hP hD hS hl)
end ZNT
set_option maxRecDepth 20000 in
theorem t_X3_result {l : Launch} (hl0 : l.stackTraces = false) {D : va_G} {cI cN cW : ClassId} {ad : Nat → Nat} (hJ : zs_J 88 ad) (σ : zs_T) (x1 : Int32) (hb : fr_X3_isProcess σ x1 = 0) : zx_M l D (tysC cI cN cW) 88 ad (wC cI cN cW ad σ) yX3_result (Cond.code yX3_result cX3_result 2 (some .int) :: zw_G) (zn_rm 6 1 6) [.ref (ad 0), .int x1] := by
  refine zx_ofZ (cc := cX3_result) (nL := 2) (ret := some .int) (lv0 := [(0, .ref (ad 0)), (1, .int x1)]) (by decide) rfl hJ (Nat.le_of_ble_eq_true rfl) rfl ?_
  intro p e s m args below meth c C htab hX
  refine zn_iload_n C dX3_result_0 rfl (j := 1) rfl ?_
  refine zn_kSi (tys1 := tysC cI cN cW) (N := 88) (ad := ad) (wf := wC cI cN cW ad) (σ := σ) (wl := []) (wr := []) (As := [.int x1]) (rest := []) C (fun w h => zw_in h) pk_X3_isProcess lkX3_45 (m_X3_isProcess hJ 0 σ x1) (by decide) hJ (fun h => h) rfl rfl (Nat.le_of_ble_eq_true rfl) dX3_result_1 (by decide) (by rw [List.append_nil]; rfl) (zn_one ?_)
  refine zn_if_ne (tgt := 17) C dX3_result_4 (by decide) (fun q => absurd hb q) (fun _ => ?_)
  exact zn_throw hl0 C htab hX hX.2.1.1 dX3_result_7 dX3_result_10 dX3_result_11 dX3_result_13 dX3_result_16
set_option maxRecDepth 20000 in
theorem t_X3_process {l : Launch} (hl0 : l.stackTraces = false) {D : va_G} {cI cN cW : ClassId} {ad : Nat → Nat} (hJ : zs_J 88 ad) (σ : zs_T) (x1 : Int32) (x2 : Int32) (hb : fr_X3_isProcess σ x1 = 0) : zx_M l D (tysC cI cN cW) 88 ad (wC cI cN cW ad σ) yX3_process (Cond.code yX3_process cX3_process 4 (some .int) :: zw_G) (zn_rm 6 1 6) [.ref (ad 0), .int x1, .int x2] := by
  refine zx_ofZ (cc := cX3_process) (nL := 4) (ret := some .int) (lv0 := [(0, .ref (ad 0)), (1, .int x1), (2, .int x2)]) (by decide) rfl hJ (Nat.le_of_ble_eq_true rfl) rfl ?_
  intro p e s m args below meth c C htab hX
  refine zn_iload_n C dX3_process_0 rfl (j := 1) rfl ?_
  refine zn_kSi (tys1 := tysC cI cN cW) (N := 88) (ad := ad) (wf := wC cI cN cW ad) (σ := σ) (wl := []) (wr := []) (As := [.int x1]) (rest := []) C (fun w h => zw_in h) pk_X3_isProcess lkX3_45 (m_X3_isProcess hJ 0 σ x1) (by decide) hJ (fun h => h) rfl rfl (Nat.le_of_ble_eq_true rfl) dX3_process_1 (by decide) (by rw [List.append_nil]; rfl) (zn_one ?_)
  refine zn_if_ne (tgt := 17) C dX3_process_4 (by decide) (fun q => absurd hb q) (fun _ => ?_)
  exact zn_throw hl0 C htab hX hX.2.1.1 dX3_process_7 dX3_process_10 dX3_process_11 dX3_process_13 dX3_process_16
set_option maxRecDepth 20000 in
theorem t_X3_node {l : Launch} (hl0 : l.stackTraces = false) {D : va_G} {cI cN cW : ClassId} {ad : Nat → Nat} (hJ : zs_J 88 ad) (σ : zs_T) (x1 : Int32) (x2 : Int32) (hb : fr_X3_isNode σ x1 = 0) : zx_M l D (tysC cI cN cW) 88 ad (wC cI cN cW ad σ) yX3_node (Cond.code yX3_node cX3_node 4 (some .int) :: zw_G) (zn_rm 6 1 6) [.ref (ad 0), .int x1, .int x2] := by
  refine zx_ofZ (cc := cX3_node) (nL := 4) (ret := some .int) (lv0 := [(0, .ref (ad 0)), (1, .int x1), (2, .int x2)]) (by decide) rfl hJ (Nat.le_of_ble_eq_true rfl) rfl ?_
  intro p e s m args below meth c C htab hX
  refine zn_iload_n C dX3_node_0 rfl (j := 1) rfl ?_
  refine zn_kSi (tys1 := tysC cI cN cW) (N := 88) (ad := ad) (wf := wC cI cN cW ad) (σ := σ) (wl := []) (wr := []) (As := [.int x1]) (rest := []) C (fun w h => zw_in h) pk_X3_isNode lkX3_103 (m_X3_isNode hJ 0 σ x1) (by decide) hJ (fun h => h) rfl rfl (Nat.le_of_ble_eq_true rfl) dX3_node_1 (by decide) (by rw [List.append_nil]; rfl) (zn_one ?_)
  refine zn_if_ne (tgt := 17) C dX3_node_4 (by decide) (fun q => absurd hb q) (fun _ => ?_)
  exact zn_throw hl0 C htab hX hX.2.1.2.2.1 dX3_node_7 dX3_node_10 dX3_node_11 dX3_node_13 dX3_node_16
set_option maxRecDepth 20000 in
theorem t_X3_processB {l : Launch} (hl0 : l.stackTraces = false) {D : va_G} {cI cN cW : ClassId} {ad : Nat → Nat} (hJ : zs_J 88 ad) (σ : zs_T) (x1 : Int32) (x2 : Int32) (hg : ¬ fr_X3_isProcess σ x1 = 0) (hb : x2 < 0 ∨ 8 < x2) : zx_M l D (tysC cI cN cW) 88 ad (wC cI cN cW ad σ) yX3_process (Cond.code yX3_process cX3_process 4 (some .int) :: zw_G) (zn_rm 6 1 6) [.ref (ad 0), .int x1, .int x2] := by
  refine zx_ofZ (cc := cX3_process) (nL := 4) (ret := some .int) (lv0 := [(0, .ref (ad 0)), (1, .int x1), (2, .int x2)]) (by decide) rfl hJ (Nat.le_of_ble_eq_true rfl) rfl ?_
  intro p e s m args below meth c C htab hX
  have hb2 : x2.toInt < 0 ∨ 8 < x2.toInt := by
    rcases hb with h | h
    · exact Or.inl (Int32.lt_iff_toInt_lt.mp h)
    · exact Or.inr (Int32.lt_iff_toInt_lt.mp h)
  have hin : vp_in x1 4 := by
    obtain ⟨k, hk, e⟩ := zf_of (n := 3) (hi := 3) rfl (fun z => hg (zf_pr.mpr z))
    rw [e]; exact vp_in_nI (by omega) (by decide)
  refine zn_iload_n C dX3_process_0 rfl (j := 1) rfl ?_
  refine zn_kSi (tys1 := tysC cI cN cW) (N := 88) (ad := ad) (wf := wC cI cN cW ad) (σ := σ) (wl := []) (wr := []) (As := [.int x1]) (rest := []) C (fun w h => zw_in h) pk_X3_isProcess lkX3_45 (m_X3_isProcess hJ 0 σ x1) (by decide) hJ (fun h => h) rfl rfl (Nat.le_of_ble_eq_true rfl) dX3_process_1 (by decide) (by rw [List.append_nil]; rfl) (zn_one ?_)
  refine zn_if_ne (tgt := 17) C dX3_process_4 (by decide) (fun _ => ?_) (fun q => absurd q hg)
  refine zn_aload_n C dX3_process_17 rfl (j := 0) rfl ?_
  refine zn_get (fs := [.ref (ad 1), .ref (ad 2), .ref (ad 3), .int (σ 32 0), .int (σ 33 0), .int (σ 34 0)]) C (fun w h => zw_in (zw_fX3 w h)) 0 (zs_wl_get (by decide)) rfl 1 (by decide) (zw_in zl_fX3_17) rfl dX3_process_18 ?_
  refine zn_iload_n C dX3_process_21 rfl (j := 1) rfl ?_
  refine zn_aald (a1 := ad (68 + x1.toNatClampNeg)) C 2 2 (zs_wl_get (by decide)) rfl hin rfl dX3_process_22 ?_
  refine zn_astore_n (lv' := [(3, .ref (ad (68 + x1.toNatClampNeg))), (0, .ref (ad 0)), (1, .int x1), (2, .int x2)]) C dX3_process_23 rfl (by decide) rfl ?_
  refine zn_iload_n C dX3_process_24 rfl (j := 3) rfl ?_
  refine zn_tabOut (tgt := 127) C dX3_process_25 hb2 (by decide) ?_
  exact zn_throw hl0 C htab hX hX.2.1.2.1 dX3_process_127 dX3_process_130 dX3_process_131 dX3_process_133 dX3_process_136
set_option maxRecDepth 20000 in
theorem t_X3_nodeB {l : Launch} (hl0 : l.stackTraces = false) {D : va_G} {cI cN cW : ClassId} {ad : Nat → Nat} (hJ : zs_J 88 ad) (σ : zs_T) (x1 : Int32) (x2 : Int32) (hg : ¬ fr_X3_isNode σ x1 = 0) (hb : x2 < 0 ∨ 7 < x2) : zx_M l D (tysC cI cN cW) 88 ad (wC cI cN cW ad σ) yX3_node (Cond.code yX3_node cX3_node 4 (some .int) :: zw_G) (zn_rm 6 1 6) [.ref (ad 0), .int x1, .int x2] := by
  refine zx_ofZ (cc := cX3_node) (nL := 4) (ret := some .int) (lv0 := [(0, .ref (ad 0)), (1, .int x1), (2, .int x2)]) (by decide) rfl hJ (Nat.le_of_ble_eq_true rfl) rfl ?_
  intro p e s m args below meth c C htab hX
  have hb2 : x2.toInt < 0 ∨ 7 < x2.toInt := by
    rcases hb with h | h
    · exact Or.inl (Int32.lt_iff_toInt_lt.mp h)
    · exact Or.inr (Int32.lt_iff_toInt_lt.mp h)
  have hin : vp_in x1 64 := by
    obtain ⟨k, hk, e⟩ := zf_of (n := 63) (hi := 63) rfl (fun z => hg (zf_nd.mpr z))
    rw [e]; exact vp_in_nI (by omega) (by decide)
  refine zn_iload_n C dX3_node_0 rfl (j := 1) rfl ?_
  refine zn_kSi (tys1 := tysC cI cN cW) (N := 88) (ad := ad) (wf := wC cI cN cW ad) (σ := σ) (wl := []) (wr := []) (As := [.int x1]) (rest := []) C (fun w h => zw_in h) pk_X3_isNode lkX3_103 (m_X3_isNode hJ 0 σ x1) (by decide) hJ (fun h => h) rfl rfl (Nat.le_of_ble_eq_true rfl) dX3_node_1 (by decide) (by rw [List.append_nil]; rfl) (zn_one ?_)
  refine zn_if_ne (tgt := 17) C dX3_node_4 (by decide) (fun _ => ?_) (fun q => absurd q hg)
  refine zn_aload_n C dX3_node_17 rfl (j := 0) rfl ?_
  refine zn_get (fs := [.ref (ad 1), .ref (ad 2), .ref (ad 3), .int (σ 32 0), .int (σ 33 0), .int (σ 34 0)]) C (fun w h => zw_in (zw_fX3 w h)) 0 (zs_wl_get (by decide)) rfl 0 (by decide) (zw_in zl_fX3_11) rfl dX3_node_18 ?_
  refine zn_iload_n C dX3_node_21 rfl (j := 1) rfl ?_
  refine zn_aald (a1 := ad (4 + x1.toNatClampNeg)) C 1 1 (zs_wl_get (by decide)) rfl hin rfl dX3_node_22 ?_
  refine zn_astore_n (lv' := [(3, .ref (ad (4 + x1.toNatClampNeg))), (0, .ref (ad 0)), (1, .int x1), (2, .int x2)]) C dX3_node_23 rfl (by decide) rfl ?_
  refine zn_iload_n C dX3_node_24 rfl (j := 3) rfl ?_
  refine zn_tabOut (tgt := 120) C dX3_node_25 hb2 (by decide) ?_
  exact zn_throw hl0 C htab hX hX.2.1.2.2.2 dX3_node_120 dX3_node_123 dX3_node_124 dX3_node_126 dX3_node_129
