theorem zl_L_26 : Cond.methodLink RL 26 yX3_start ∈ zw_G := zw_mem 229 (by decide +kernel) rfl
theorem zl_L_30 : Cond.methodLink RL 30 yX4_start ∈ zw_G := zw_mem 624 (by decide +kernel) rfl
theorem zl_L_31 : Cond.methodLink RL 31 yX3_step ∈ zw_G := zw_mem 241 (by decide +kernel) rfl
theorem zl_L_34 : Cond.methodLink RL 34 yX4_step ∈ zw_G := zw_mem 632 (by decide +kernel) rfl
theorem zl_L_35 : Cond.methodLink RL 35 yX3_run ∈ zw_G := zw_mem 403 (by decide +kernel) rfl
theorem zl_L_38 : Cond.methodLink RL 38 yX4_run ∈ zw_G := zw_mem 689 (by decide +kernel) rfl
theorem zl_L_7 : Cond.methodLink RL 7 yX3_result ∈ zw_G := zw_mem 423 (by decide +kernel) rfl
theorem zl_L_15 : Cond.methodLink RL 15 yX3_process ∈ zw_G := zw_mem 496 (by decide +kernel) rfl
theorem zl_L_19 : Cond.methodLink RL 19 yX3_node ∈ zw_G := zw_mem 504 (by decide +kernel) rfl
theorem zl_L_44 : Cond.methodLink RL 44 yX4_result ∈ zw_G := zw_mem 693 (by decide +kernel) rfl
theorem zl_L_45 : Cond.methodLink RL 45 yX4_thrown ∈ zw_G := zw_mem 620 (by decide +kernel) rfl
theorem zl_L_52 : Cond.methodLink RL 52 yX4_process ∈ zw_G := zw_mem 697 (by decide +kernel) rfl
theorem zl_L_55 : Cond.methodLink RL 55 yX4_node ∈ zw_G := zw_mem 701 (by decide +kernel) rfl
theorem zl_L_56 : Cond.methodLink RL 56 yX3_bucket ∈ zw_G := zw_mem 407 (by decide +kernel) rfl
theorem zl_L_59 : Cond.methodLink RL 59 yX4_bucket ∈ zw_G := zw_mem 705 (by decide +kernel) rfl
theorem zl_L_60 : Cond.methodLink RL 60 yX3_total ∈ zw_G := zw_mem 411 (by decide +kernel) rfl
theorem zl_L_63 : Cond.methodLink RL 63 yX4_total ∈ zw_G := zw_mem 709 (by decide +kernel) rfl
theorem zl_L_39 : Cond.methodLink RL 39 yL_result ∈ zw_G := zw_mem 419 (by decide +kernel) rfl
theorem zl_Ls_result : Cond.static yL_result ∈ zw_G := zw_mem 420 (by decide +kernel) rfl
set_option maxRecDepth 20000 in
theorem zl_Lk_result : Cond.codeWith yL_result cL_result 4 (some .int) [(0, 9, 12, 13)] ∈ zw_G := zw_mem 421 rfl rfl
theorem zl_L_49 : Cond.methodLink RL 49 yL_process ∈ zw_G := zw_mem 493 (by decide +kernel) rfl
theorem zl_Ls_process : Cond.static yL_process ∈ zw_G := zw_mem 494 (by decide +kernel) rfl
set_option maxRecDepth 20000 in
theorem zl_Lk_process : Cond.codeWith yL_process cL_process 5 (some .int) [(0, 10, 13, 13)] ∈ zw_G := zw_mem 495 rfl rfl
theorem zl_L_53 : Cond.methodLink RL 53 yL_node ∈ zw_G := zw_mem 501 (by decide +kernel) rfl
theorem zl_Ls_node : Cond.static yL_node ∈ zw_G := zw_mem 502 (by decide +kernel) rfl
set_option maxRecDepth 20000 in
theorem zl_Lk_node : Cond.codeWith yL_node cL_node 5 (some .int) [(0, 10, 13, 13)] ∈ zw_G := zw_mem 503 rfl rfl
theorem zl_Ln : Cond.initialized RL ∈ zw_G := zw_mem 39 (by decide +kernel) rfl
theorem zl_Lc : Cond.classLink RL 13 zx_N ∈ zw_G := zw_mem 422 (by decide +kernel) rfl
theorem zn_goodH {Ts : List Cond} {w0 : Cond} (hsub : ∀ w ∈ zw_G, w ∈ Ts) (hz : w0 ∈ zw_G) : GoodIn Ts (w0 :: zw_G) := by
  have key : ∀ w ∈ zw_G, w ∈ Ts ∧ ((w.onTables && w.keeps) = true ∨ ∃ ty, w = .arrayClass ty) := fun w h => ⟨hsub w h, good_of_word (List.mem_filter.mp h).2⟩
  intro w hw
  rcases List.mem_cons.mp hw with h | h
  · rw [h]; exact key _ hz
  · exact key _ h
theorem zn_endS {X : va_W} {N : Nat} {a b : Nat × va_E} (hX : X.length = N) : (X ++ [a]).set N b = X ++ [b] := by
  subst hX
  induction X with
  | nil => rfl
  | cons x X ih => rw [List.cons_append, List.length_cons, List.set_cons_succ, ih]; rfl
theorem zn_endG {X : va_W} {N : Nat} {a : Nat × va_E} (hX : X.length = N) : (X ++ [a])[N]? = some a := by
  rw [List.getElem?_append_right (by omega), hX, Nat.sub_self]; rfl
section ZNX
variable {p : Program} {l : Launch} {e : Env} {R : Room} {s : State} {m : MethodId} {args : Array Value} {below : List Frame} {meth : Method} {c : Code} {D : va_G} {tys : List (ClassId × FieldType)} {A : Nat → Prop} {nL : Nat} {Q : State → Prop} {ws : va_W} {k n : Nat} {cc : ByteArray} {Ts : List Cond} {own : String} {pc : Nat} {lv : List (Nat × Value)} {st rest : List Value}
/-- a call that throws, caught here -/
theorem zn_callX (C : zn_C p s m args meth c cc nL Ts own D vwCl tys A) (hsub : ∀ w ∈ zw_G, w ∈ Ts) {tys1 : List (ClassId × FieldType)} {N : Nat} {ad : Nat → Nat} {cf : Nat → va_E} {y : MethodName} {q0 ci i0 index maxL : Nat} {As : List Value} {bytes : ByteArray} {ret : Option FieldType} {fs : List Value} {q2 : u_T × Nat} {wl wr : va_W} (pk : zw_Vt y bytes maxL ret i0) (hlink : Cond.methodLink own index y ∈ zw_G) (hM : zx_M l D tys1 N ad cf y (Cond.code y bytes maxL ret :: zw_G) (zn_rm 6 1 6) (.ref (ad q0) :: As)) (hR : 6 + 1 ≤ R.frames ∧ 8 + (maxL + 11) + 30 * 6 ≤ R.locals) (hJ : zs_J N ad) (hX : zx_P A s) (hty : va_K D vwCl tys s → va_K D vwCl tys1 s) (hq : q0 < N ∧ cf q0 = .inr (ci, fs)) (hc : vwCl[ci]? = some (y.cls, q2)) (hn : As.length = i0) {st0 : List Value} (hst : st0 = As.reverse ++ .ref (ad q0) :: rest) (hW : (rest.map fun v => v.category).sum ≤ 8) (hdg : decode cc pc = .ok (.invokevirtual index, 3)) (hcs : k + 1 ≤ R.cells ∧ n + 6 ≤ R.slots) (hw : ws = wl ++ (zs_wl N ad cf ++ wr))
    (x : ExceptionTableEntry) (ht : c.exceptionTable.toList = [x]) (hx : covers x pc = true) (h0 : x.catchType ≠ 0) (hcl : Cond.classLink own x.catchType zx_N ∈ Ts)
    (kk : ∀ q : Nat, zn_Z p l e R s m args below meth c D vwCl A nL Q (wl ++ (zs_wl N ad cf ++ wr)) (k + 1) (n + 6) x.handlerPc lv ([.ref q])) : zn_Z p l e R s m args below meth c D vwCl A nL Q ws k n pc lv (st0) := by
  subst hw
  obtain ⟨p1, p2, p3, p4, p5⟩ := pk
  have hts := C.1.2.2.2.2
  intro H locs ls hP hD hS hl
  have hPm := zn_mid hP
  have hA : ∀ q, zs_A N ad H.size q → A q := fun q h => by
    rcases zn_Am.mp (zn_A (cf := cf).mp h) with ⟨e, he⟩ | h
    · exact (zn_Dm.mp hD).2 (q, e) (List.mem_append_right _ (List.mem_append_left _ he))
    · exact C.2.2.1 q (Nat.le_trans hS.1 h)
  have hrun := vx_runV (C := y.cls) (g := F0 m pc ls st0) (H := H) (locs := locs) (cells := k) (slots := n) (e := e) (below := below) (meth := meth) (R := R) (bytes := bytes) (maxL := maxL) (ret := ret) (n := i0) (index := index) (rest := rest) C.1 (hM H.size) ⟨callB_of i0 hts (zn_good hsub p4) rfl rfl rfl (hts _ (hsub _ p3)) (hts _ (hsub _ hlink)) p5 hR, hts _ (hsub _ p1), hts _ (hsub _ p2)⟩
    ⟨fun a U g mk q => by
      obtain ⟨q0, q1, qP, qK, qX⟩ := q
      exact ⟨q0, q1, qP, va_K.moved (u := U) (U := U.calling g mk a) (Vm.Alike.refl U.vm) qK, zx_Pcall (V := U.calling g mk a) rfl rfl qX⟩,
     va_recv C.2.1 hPm hc (by rw [zs_wl_get hq.1, hq.2]),
     fun U hU hW => ⟨rfl, by rw [hU], by rw [hU]; exact hPm, va_K.moved hW.alike (hty C.2.1), zx_Pwarm (locs := locs) hX hW (by rw [hU]; exact hS) hA⟩⟩ rfl hn hl.1 hst (lv_room hW) hdg hcs
  intro T hT X
  rcases hrun T hT X with ⟨v, st₀, t, T', L, h1, X', hL, e1, e2, hF, st⟩ | ⟨q, st₀, t, T', L, E, ce, h1, X', hL, e1, e2, hx2, hce, hcv, hcl2, st⟩
  · exact absurd hF id
  · obtain ⟨rfl, hP1, hz, hk⟩ := hx2
    rw [h1] at hz hk
    have hD1 : va_D (va_A (zs_wl N ad cf) H.size) (zs_wl N ad cf) := by
      have h9 := zs_D (sz := H.size) (cf := cf) hJ
      exact ⟨h9.1, fun k q hk => zn_A.mp (h9.2 k q hk)⟩
    obtain ⟨hP2, hD2⟩ := zn_join hP hD (fun q h => hA q (zn_A.mpr h)) (fun q g1 g2 => hk q g1 (fun z => g2 (zn_A.mp z))) hP1 hD1
    have hS2 : va_S A s.heap T'.heap (locs ++ L) := ⟨Nat.le_trans hS.1 (by rw [e1]; exact hz), fun q g1 g2 => by rw [e1, hk q (Nat.lt_of_lt_of_le g1 hS.1) (fun z => g2 (hA q z))]; exact hS.2.1 q g1 g2, fun q hq => by
      rcases List.mem_append.mp hq with h | h
      · exact hS.2.2 q h
      · exact hA _ (hL q h)⟩
    obtain ⟨t2, a1, b1⟩ := zx_catch (own := own) (name := zx_N) (E := zx_N) (ce := ce) (q := q) (pc := pc) (ls := ls) (rest := rest) C.1.2.2.2.1 x ht hx h0 (hts _ hcl) (va_Nw.use rfl hX.1.2.2.2) (by rw [e1]; exact hce) hcv hcl2 (kk q T'.heap (locs ++ L) ls (by rw [e1]; exact hP2) hD2 hS2 hl) T' rfl X'
    exact ⟨t2, st.trans a1, b1⟩
theorem zn_iret (C : zn_C p s m args meth c cc nL Ts own D vwCl tys A) (hr : meth.sig.returnType = some .int) {w0 : va_W} {P : Option Value → va_W → Prop} {v : Int32} (hp : P (some (.int v)) ws) (hdg : decode cc pc = .ok (.ireturn, 1)) : zn_Z p l e R s m args below meth c D vwCl (va_A w0 s.heap.size) nL (MQ below (zn_Q D vwCl w0 s.heap.size P) args s k n (va_A w0 s.heap.size)) ws k n pc lv [.int v] :=
  fun H locs ls hP hD hS hl => W.iret C.1.1 C.1.2.1 hr (fun t ht hW => ⟨⟨some (.int v), ws, rfl, hp, by rw [ht]; exact hP, hD⟩, hS.F ht⟩) hS.2.2 hdg C.2.2.2
end ZNX
/-- a helper's contract -/
def zh_M (l : Launch) (D : va_G) (tys : List (ClassId × FieldType)) (y : MethodName) (ws : List Cond) (rm : Room) (av : List Value) (w0 : va_W) (P : Option Value → va_W → Prop) : Prop :=
  ∀ sz : Nat, Met l y ws rm (va_Pc av (fun U => U.heap.size = sz ∧ va_P D vwCl w0 U.heap ∧ va_K D vwCl tys U ∧ va_D (fun _ => True) w0 ∧ zx_P (va_A w0 sz) U)) (zn_Q D vwCl w0 sz P) 1 6 (va_A w0 sz)
theorem zh_ofZ {l : Launch} {D : va_G} {tys : List (ClassId × FieldType)} {y : MethodName} {ws ws' : List Cond} {rm : Room} {av : List Value} {w0 : va_W} {P : Option Value → va_W → Prop} {cc : ByteArray} {nL : Nat} {ret : Option FieldType} {hh : List (Nat × Nat × Nat × Nat)} {lv0 : List (Nat × Value)} (hy : plainName y.cls = true) (hw : ws = Cond.codeWith y cc nL ret hh :: ws') (hav : (lg_sl av).length ≤ nL) (hlv : lv_args 0 av = lv0)
    (body : ∀ (p : Program) (e : Env) (s : State) (m : MethodId) (args : Array Value) (below : List Frame) (meth : Method) (c : Code), zn_C p s m args meth c cc nL ws y.cls D vwCl tys (va_A w0 s.heap.size) → meth.sig.returnType = ret → c.exceptionTable.toList = tableOf hh → zx_P (va_A w0 s.heap.size) s → zn_Z p l e rm s m args below meth c D vwCl (va_A w0 s.heap.size) nL (MQ below (zn_Q D vwCl w0 s.heap.size P) args s 1 6 (va_A w0 s.heap.size)) w0 0 0 0 lv0 []) : zh_M l D tys y ws rm av w0 P := by
  intro sz
  refine va_MetW (cc := cc) (maxL := nL) (ret := ret) (hh := hh) hy hw ?_
  intro p e s m args below meth c s₁ B hml hv
  obtain ⟨rfl, hsz, hP, hK, hD, hX⟩ := hv
  subst hsz
  subst hlv
  have hl := lv_entry av (n := nL) hav
  rw [lg_entry_eq]
  have hts := atoms_spec (ws := ws) B.pre
  exact body p e s m av.toArray below meth c ⟨⟨B.exec, B.bytes, hml, findClass_of_methodNamed B.named, hts⟩, hK, fun q h => Or.inr h, B.notSynchronized⟩ B.returns (vx_table (x := y) B (hts _ (by rw [hw]; exact List.mem_cons_self))) hX s.heap [] _ hP hD.self va_S.rf hl
set_option maxRecDepth 20000 in
theorem h_result {l : Launch} {D : va_G} {cI cN cW cZ cL : ClassId} {ad : Nat → Nat} (hJ : zs_J 88 ad) (σ : zs_T) (x1 : Int32) (o : Nat) (f : Nat → Int64) (hok : ok_X3_result σ x1) : zh_M l D (tysA cI cN cW cZ cL) yL_result (Cond.codeWith yL_result cL_result 4 (some .int) [(0, 9, 12, 13)] :: zw_G) (zn_rm 7 1 6) [.ref (ad 0), .int x1, .ref o] (zs_wl 88 ad (wC cI cN cW ad σ) ++ [(o, .inl (cL, 1, .inr (.inl f)))]) (fun v w => v = some (.int 0) ∧ w = (zs_wl 88 ad (wC cI cN cW ad σ) ++ [(o, .inl (cL, 1, .inr (.inl (vp_updL f 0 (fr_X3_result σ x1).toInt64))))])) := by
  refine zh_ofZ (cc := cL_result) (nL := 4) (ret := some .int) (hh := [(0, 9, 12, 13)]) (lv0 := [(0, .ref (ad 0)), (1, .int x1), (2, .ref o)]) (by decide) rfl (Nat.le_of_ble_eq_true rfl) rfl ?_
  intro p e s m args below meth c C hr htab hX
  refine zn_aload_n C dL_result_0 rfl (j := 2) rfl ?_
  refine zn_iconst (v := 0) C dL_result_1 rfl ?_
  refine zn_aload_n C dL_result_2 rfl (j := 0) rfl ?_
  refine zn_iload_n C dL_result_3 rfl (j := 1) rfl ?_
  refine zn_kVi (tys1 := tysC cI cN cW) (N := 88) (ad := ad) (wf := wC cI cN cW ad) (σ := σ) (q0 := 0) (wl := []) (wr := [(o, .inl (cL, 1, .inr (.inl f)))]) (As := [.int x1]) (rest := [.int 0, .ref o]) C (fun w h => zw_in h) pk_X3_result zl_L_7 (m_X3_result hJ 0 σ x1 hok) (by decide) hJ (fun h => h.sub [0, 1, 2] rfl) zc_recvS rfl rfl rfl (Nat.le_of_ble_eq_true rfl) dL_result_4 (by decide) rfl ?_
  refine zn_i2l C dL_result_7 ?_
  refine zn_last (ws' := (zs_wl 88 ad (wC cI cN cW ad σ) ++ [(o, .inl (cL, 1, .inr (.inl (vp_updL f 0 (fr_X3_result σ x1).toInt64))))])) C 88 4 (zn_endG zs_wl_len) rfl (by unfold vp_in; decide) (zn_endS zs_wl_len) dL_result_8 ?_
  refine zn_goto (tgt := 15) C dL_result_9 (by decide) ?_
  refine zn_iconst (v := 0) C dL_result_15 rfl ?_
  refine zn_widen (k' := 1) (n' := 6) (by decide) (by decide) ?_
  exact zn_iret C hr ⟨rfl, rfl⟩ dL_result_16
set_option maxRecDepth 20000 in
theorem h_resultT {l : Launch} {D : va_G} {cI cN cW cZ cL : ClassId} {ad : Nat → Nat} (hl0 : l.stackTraces = false) (hJ : zs_J 88 ad) (σ : zs_T) (x1 : Int32) (o : Nat) (f : Nat → Int64) (hb : fr_X3_isProcess σ x1 = 0) : zh_M l D (tysA cI cN cW cZ cL) yL_result (Cond.codeWith yL_result cL_result 4 (some .int) [(0, 9, 12, 13)] :: zw_G) (zn_rm 7 1 6) [.ref (ad 0), .int x1, .ref o] (zs_wl 88 ad (wC cI cN cW ad σ) ++ [(o, .inl (cL, 1, .inr (.inl f)))]) (fun v w => v = some (.int 1) ∧ w = (zs_wl 88 ad (wC cI cN cW ad σ) ++ [(o, .inl (cL, 1, .inr (.inl f)))])) := by
  refine zh_ofZ (cc := cL_result) (nL := 4) (ret := some .int) (hh := [(0, 9, 12, 13)]) (lv0 := [(0, .ref (ad 0)), (1, .int x1), (2, .ref o)]) (by decide) rfl (Nat.le_of_ble_eq_true rfl) rfl ?_
  intro p e s m args below meth c C hr htab hX
  refine zn_aload_n C dL_result_0 rfl (j := 2) rfl ?_
  refine zn_iconst (v := 0) C dL_result_1 rfl ?_
  refine zn_aload_n C dL_result_2 rfl (j := 0) rfl ?_
  refine zn_iload_n C dL_result_3 rfl (j := 1) rfl ?_
  refine zn_callX (tys1 := tysC cI cN cW) (N := 88) (ad := ad) (cf := wC cI cN cW ad σ) (q0 := 0) (wl := []) (wr := [(o, .inl (cL, 1, .inr (.inl f)))]) (As := [.int x1]) (rest := [.int 0, .ref o]) C (fun w h => zw_in h) pk_X3_result zl_L_7 (t_X3_result hl0 hJ σ x1 hb) (by decide) hJ hX (fun h => h.sub [0, 1, 2] rfl) zc_recvS rfl rfl rfl (Nat.le_of_ble_eq_true rfl) dL_result_4 (by decide) rfl ⟨0, 9, 12, 13⟩ (by rw [htab]; rfl) (by decide) (by decide) (zw_in zl_Lc) (fun q => ?_)
  refine zn_astore_n (lv' := [(3, .ref q), (0, .ref (ad 0)), (1, .int x1), (2, .ref o)]) C dL_result_12 rfl (by decide) rfl ?_
  refine zn_iconst (v := 1) C dL_result_13 rfl ?_
  refine zn_widen (k' := 1) (n' := 6) (by decide) (by decide) ?_
  exact zn_iret C hr ⟨rfl, rfl⟩ dL_result_14
set_option maxRecDepth 20000 in
theorem h_process {l : Launch} {D : va_G} {cI cN cW cZ cL : ClassId} {ad : Nat → Nat} (hJ : zs_J 88 ad) (σ : zs_T) (x1 : Int32) (x2 : Int32) (o : Nat) (f : Nat → Int64) (hok : ok_X3_process σ x1 x2) : zh_M l D (tysA cI cN cW cZ cL) yL_process (Cond.codeWith yL_process cL_process 5 (some .int) [(0, 10, 13, 13)] :: zw_G) (zn_rm 7 1 6) [.ref (ad 0), .int x1, .int x2, .ref o] (zs_wl 88 ad (wC cI cN cW ad σ) ++ [(o, .inl (cL, 1, .inr (.inl f)))]) (fun v w => v = some (.int 0) ∧ w = (zs_wl 88 ad (wC cI cN cW ad σ) ++ [(o, .inl (cL, 1, .inr (.inl (vp_updL f 0 (fr_X3_process σ x1 x2).toInt64))))])) := by
  refine zh_ofZ (cc := cL_process) (nL := 5) (ret := some .int) (hh := [(0, 10, 13, 13)]) (lv0 := [(0, .ref (ad 0)), (1, .int x1), (2, .int x2), (3, .ref o)]) (by decide) rfl (Nat.le_of_ble_eq_true rfl) rfl ?_
  intro p e s m args below meth c C hr htab hX
  refine zn_aload_n C dL_process_0 rfl (j := 3) rfl ?_
  refine zn_iconst (v := 0) C dL_process_1 rfl ?_
  refine zn_aload_n C dL_process_2 rfl (j := 0) rfl ?_
  refine zn_iload_n C dL_process_3 rfl (j := 1) rfl ?_
  refine zn_iload_n C dL_process_4 rfl (j := 2) rfl ?_
  refine zn_kVi (tys1 := tysC cI cN cW) (N := 88) (ad := ad) (wf := wC cI cN cW ad) (σ := σ) (q0 := 0) (wl := []) (wr := [(o, .inl (cL, 1, .inr (.inl f)))]) (As := [.int x1, .int x2]) (rest := [.int 0, .ref o]) C (fun w h => zw_in h) pk_X3_process zl_L_15 (m_X3_process hJ 0 σ x1 x2 hok) (by decide) hJ (fun h => h.sub [0, 1, 2] rfl) zc_recvS rfl rfl rfl (Nat.le_of_ble_eq_true rfl) dL_process_5 (by decide) rfl ?_
  refine zn_i2l C dL_process_8 ?_
  refine zn_last (ws' := (zs_wl 88 ad (wC cI cN cW ad σ) ++ [(o, .inl (cL, 1, .inr (.inl (vp_updL f 0 (fr_X3_process σ x1 x2).toInt64))))])) C 88 4 (zn_endG zs_wl_len) rfl (by unfold vp_in; decide) (zn_endS zs_wl_len) dL_process_9 ?_
  refine zn_goto (tgt := 17) C dL_process_10 (by decide) ?_
  refine zn_iconst (v := 0) C dL_process_17 rfl ?_
  refine zn_widen (k' := 1) (n' := 6) (by decide) (by decide) ?_
  exact zn_iret C hr ⟨rfl, rfl⟩ dL_process_18
set_option maxRecDepth 20000 in
theorem h_processT {l : Launch} {D : va_G} {cI cN cW cZ cL : ClassId} {ad : Nat → Nat} (hl0 : l.stackTraces = false) (hJ : zs_J 88 ad) (σ : zs_T) (x1 : Int32) (x2 : Int32) (o : Nat) (f : Nat → Int64) (hb : fr_X3_isProcess σ x1 = 0) : zh_M l D (tysA cI cN cW cZ cL) yL_process (Cond.codeWith yL_process cL_process 5 (some .int) [(0, 10, 13, 13)] :: zw_G) (zn_rm 7 1 6) [.ref (ad 0), .int x1, .int x2, .ref o] (zs_wl 88 ad (wC cI cN cW ad σ) ++ [(o, .inl (cL, 1, .inr (.inl f)))]) (fun v w => v = some (.int 1) ∧ w = (zs_wl 88 ad (wC cI cN cW ad σ) ++ [(o, .inl (cL, 1, .inr (.inl f)))])) := by
  refine zh_ofZ (cc := cL_process) (nL := 5) (ret := some .int) (hh := [(0, 10, 13, 13)]) (lv0 := [(0, .ref (ad 0)), (1, .int x1), (2, .int x2), (3, .ref o)]) (by decide) rfl (Nat.le_of_ble_eq_true rfl) rfl ?_
  intro p e s m args below meth c C hr htab hX
  refine zn_aload_n C dL_process_0 rfl (j := 3) rfl ?_
  refine zn_iconst (v := 0) C dL_process_1 rfl ?_
  refine zn_aload_n C dL_process_2 rfl (j := 0) rfl ?_
  refine zn_iload_n C dL_process_3 rfl (j := 1) rfl ?_
  refine zn_iload_n C dL_process_4 rfl (j := 2) rfl ?_
  refine zn_callX (tys1 := tysC cI cN cW) (N := 88) (ad := ad) (cf := wC cI cN cW ad σ) (q0 := 0) (wl := []) (wr := [(o, .inl (cL, 1, .inr (.inl f)))]) (As := [.int x1, .int x2]) (rest := [.int 0, .ref o]) C (fun w h => zw_in h) pk_X3_process zl_L_15 (t_X3_process hl0 hJ σ x1 x2 hb) (by decide) hJ hX (fun h => h.sub [0, 1, 2] rfl) zc_recvS rfl rfl rfl (Nat.le_of_ble_eq_true rfl) dL_process_5 (by decide) rfl ⟨0, 10, 13, 13⟩ (by rw [htab]; rfl) (by decide) (by decide) (zw_in zl_Lc) (fun q => ?_)
  refine zn_astore (lv' := [(4, .ref q), (0, .ref (ad 0)), (1, .int x1), (2, .int x2), (3, .ref o)]) C dL_process_13 (by decide) rfl ?_
  refine zn_iconst (v := 1) C dL_process_15 rfl ?_
  refine zn_widen (k' := 1) (n' := 6) (by decide) (by decide) ?_
  exact zn_iret C hr ⟨rfl, rfl⟩ dL_process_16
set_option maxRecDepth 20000 in
theorem h_processTB {l : Launch} {D : va_G} {cI cN cW cZ cL : ClassId} {ad : Nat → Nat} (hl0 : l.stackTraces = false) (hJ : zs_J 88 ad) (σ : zs_T) (x1 : Int32) (x2 : Int32) (o : Nat) (f : Nat → Int64) (hg : ¬ fr_X3_isProcess σ x1 = 0) (hb : x2 < 0 ∨ 8 < x2) : zh_M l D (tysA cI cN cW cZ cL) yL_process (Cond.codeWith yL_process cL_process 5 (some .int) [(0, 10, 13, 13)] :: zw_G) (zn_rm 7 1 6) [.ref (ad 0), .int x1, .int x2, .ref o] (zs_wl 88 ad (wC cI cN cW ad σ) ++ [(o, .inl (cL, 1, .inr (.inl f)))]) (fun v w => v = some (.int 1) ∧ w = (zs_wl 88 ad (wC cI cN cW ad σ) ++ [(o, .inl (cL, 1, .inr (.inl f)))])) := by
  refine zh_ofZ (cc := cL_process) (nL := 5) (ret := some .int) (hh := [(0, 10, 13, 13)]) (lv0 := [(0, .ref (ad 0)), (1, .int x1), (2, .int x2), (3, .ref o)]) (by decide) rfl (Nat.le_of_ble_eq_true rfl) rfl ?_
  intro p e s m args below meth c C hr htab hX
  refine zn_aload_n C dL_process_0 rfl (j := 3) rfl ?_
  refine zn_iconst (v := 0) C dL_process_1 rfl ?_
  refine zn_aload_n C dL_process_2 rfl (j := 0) rfl ?_
  refine zn_iload_n C dL_process_3 rfl (j := 1) rfl ?_
  refine zn_iload_n C dL_process_4 rfl (j := 2) rfl ?_
  refine zn_callX (tys1 := tysC cI cN cW) (N := 88) (ad := ad) (cf := wC cI cN cW ad σ) (q0 := 0) (wl := []) (wr := [(o, .inl (cL, 1, .inr (.inl f)))]) (As := [.int x1, .int x2]) (rest := [.int 0, .ref o]) C (fun w h => zw_in h) pk_X3_process zl_L_15 (t_X3_processB hl0 hJ σ x1 x2 hg hb) (by decide) hJ hX (fun h => h.sub [0, 1, 2] rfl) zc_recvS rfl rfl rfl (Nat.le_of_ble_eq_true rfl) dL_process_5 (by decide) rfl ⟨0, 10, 13, 13⟩ (by rw [htab]; rfl) (by decide) (by decide) (zw_in zl_Lc) (fun q => ?_)
  refine zn_astore (lv' := [(4, .ref q), (0, .ref (ad 0)), (1, .int x1), (2, .int x2), (3, .ref o)]) C dL_process_13 (by decide) rfl ?_
  refine zn_iconst (v := 1) C dL_process_15 rfl ?_
  refine zn_widen (k' := 1) (n' := 6) (by decide) (by decide) ?_
  exact zn_iret C hr ⟨rfl, rfl⟩ dL_process_16
set_option maxRecDepth 20000 in
theorem h_node {l : Launch} {D : va_G} {cI cN cW cZ cL : ClassId} {ad : Nat → Nat} (hJ : zs_J 88 ad) (σ : zs_T) (x1 : Int32) (x2 : Int32) (o : Nat) (f : Nat → Int64) (hok : ok_X3_node σ x1 x2) : zh_M l D (tysA cI cN cW cZ cL) yL_node (Cond.codeWith yL_node cL_node 5 (some .int) [(0, 10, 13, 13)] :: zw_G) (zn_rm 7 1 6) [.ref (ad 0), .int x1, .int x2, .ref o] (zs_wl 88 ad (wC cI cN cW ad σ) ++ [(o, .inl (cL, 1, .inr (.inl f)))]) (fun v w => v = some (.int 0) ∧ w = (zs_wl 88 ad (wC cI cN cW ad σ) ++ [(o, .inl (cL, 1, .inr (.inl (vp_updL f 0 (fr_X3_node σ x1 x2).toInt64))))])) := by
  refine zh_ofZ (cc := cL_node) (nL := 5) (ret := some .int) (hh := [(0, 10, 13, 13)]) (lv0 := [(0, .ref (ad 0)), (1, .int x1), (2, .int x2), (3, .ref o)]) (by decide) rfl (Nat.le_of_ble_eq_true rfl) rfl ?_
  intro p e s m args below meth c C hr htab hX
  refine zn_aload_n C dL_node_0 rfl (j := 3) rfl ?_
  refine zn_iconst (v := 0) C dL_node_1 rfl ?_
  refine zn_aload_n C dL_node_2 rfl (j := 0) rfl ?_
  refine zn_iload_n C dL_node_3 rfl (j := 1) rfl ?_
  refine zn_iload_n C dL_node_4 rfl (j := 2) rfl ?_
  refine zn_kVi (tys1 := tysC cI cN cW) (N := 88) (ad := ad) (wf := wC cI cN cW ad) (σ := σ) (q0 := 0) (wl := []) (wr := [(o, .inl (cL, 1, .inr (.inl f)))]) (As := [.int x1, .int x2]) (rest := [.int 0, .ref o]) C (fun w h => zw_in h) pk_X3_node zl_L_19 (m_X3_node hJ 0 σ x1 x2 hok) (by decide) hJ (fun h => h.sub [0, 1, 2] rfl) zc_recvS rfl rfl rfl (Nat.le_of_ble_eq_true rfl) dL_node_5 (by decide) rfl ?_
  refine zn_i2l C dL_node_8 ?_
  refine zn_last (ws' := (zs_wl 88 ad (wC cI cN cW ad σ) ++ [(o, .inl (cL, 1, .inr (.inl (vp_updL f 0 (fr_X3_node σ x1 x2).toInt64))))])) C 88 4 (zn_endG zs_wl_len) rfl (by unfold vp_in; decide) (zn_endS zs_wl_len) dL_node_9 ?_
  refine zn_goto (tgt := 17) C dL_node_10 (by decide) ?_
  refine zn_iconst (v := 0) C dL_node_17 rfl ?_
  refine zn_widen (k' := 1) (n' := 6) (by decide) (by decide) ?_
  exact zn_iret C hr ⟨rfl, rfl⟩ dL_node_18
set_option maxRecDepth 20000 in
theorem h_nodeT {l : Launch} {D : va_G} {cI cN cW cZ cL : ClassId} {ad : Nat → Nat} (hl0 : l.stackTraces = false) (hJ : zs_J 88 ad) (σ : zs_T) (x1 : Int32) (x2 : Int32) (o : Nat) (f : Nat → Int64) (hb : fr_X3_isNode σ x1 = 0) : zh_M l D (tysA cI cN cW cZ cL) yL_node (Cond.codeWith yL_node cL_node 5 (some .int) [(0, 10, 13, 13)] :: zw_G) (zn_rm 7 1 6) [.ref (ad 0), .int x1, .int x2, .ref o] (zs_wl 88 ad (wC cI cN cW ad σ) ++ [(o, .inl (cL, 1, .inr (.inl f)))]) (fun v w => v = some (.int 1) ∧ w = (zs_wl 88 ad (wC cI cN cW ad σ) ++ [(o, .inl (cL, 1, .inr (.inl f)))])) := by
  refine zh_ofZ (cc := cL_node) (nL := 5) (ret := some .int) (hh := [(0, 10, 13, 13)]) (lv0 := [(0, .ref (ad 0)), (1, .int x1), (2, .int x2), (3, .ref o)]) (by decide) rfl (Nat.le_of_ble_eq_true rfl) rfl ?_
  intro p e s m args below meth c C hr htab hX
  refine zn_aload_n C dL_node_0 rfl (j := 3) rfl ?_
  refine zn_iconst (v := 0) C dL_node_1 rfl ?_
  refine zn_aload_n C dL_node_2 rfl (j := 0) rfl ?_
  refine zn_iload_n C dL_node_3 rfl (j := 1) rfl ?_
  refine zn_iload_n C dL_node_4 rfl (j := 2) rfl ?_
  refine zn_callX (tys1 := tysC cI cN cW) (N := 88) (ad := ad) (cf := wC cI cN cW ad σ) (q0 := 0) (wl := []) (wr := [(o, .inl (cL, 1, .inr (.inl f)))]) (As := [.int x1, .int x2]) (rest := [.int 0, .ref o]) C (fun w h => zw_in h) pk_X3_node zl_L_19 (t_X3_node hl0 hJ σ x1 x2 hb) (by decide) hJ hX (fun h => h.sub [0, 1, 2] rfl) zc_recvS rfl rfl rfl (Nat.le_of_ble_eq_true rfl) dL_node_5 (by decide) rfl ⟨0, 10, 13, 13⟩ (by rw [htab]; rfl) (by decide) (by decide) (zw_in zl_Lc) (fun q => ?_)
  refine zn_astore (lv' := [(4, .ref q), (0, .ref (ad 0)), (1, .int x1), (2, .int x2), (3, .ref o)]) C dL_node_13 (by decide) rfl ?_
  refine zn_iconst (v := 1) C dL_node_15 rfl ?_
  refine zn_widen (k' := 1) (n' := 6) (by decide) (by decide) ?_
  exact zn_iret C hr ⟨rfl, rfl⟩ dL_node_16
set_option maxRecDepth 20000 in
theorem h_nodeTB {l : Launch} {D : va_G} {cI cN cW cZ cL : ClassId} {ad : Nat → Nat} (hl0 : l.stackTraces = false) (hJ : zs_J 88 ad) (σ : zs_T) (x1 : Int32) (x2 : Int32) (o : Nat) (f : Nat → Int64) (hg : ¬ fr_X3_isNode σ x1 = 0) (hb : x2 < 0 ∨ 7 < x2) : zh_M l D (tysA cI cN cW cZ cL) yL_node (Cond.codeWith yL_node cL_node 5 (some .int) [(0, 10, 13, 13)] :: zw_G) (zn_rm 7 1 6) [.ref (ad 0), .int x1, .int x2, .ref o] (zs_wl 88 ad (wC cI cN cW ad σ) ++ [(o, .inl (cL, 1, .inr (.inl f)))]) (fun v w => v = some (.int 1) ∧ w = (zs_wl 88 ad (wC cI cN cW ad σ) ++ [(o, .inl (cL, 1, .inr (.inl f)))])) := by
  refine zh_ofZ (cc := cL_node) (nL := 5) (ret := some .int) (hh := [(0, 10, 13, 13)]) (lv0 := [(0, .ref (ad 0)), (1, .int x1), (2, .int x2), (3, .ref o)]) (by decide) rfl (Nat.le_of_ble_eq_true rfl) rfl ?_
  intro p e s m args below meth c C hr htab hX
  refine zn_aload_n C dL_node_0 rfl (j := 3) rfl ?_
  refine zn_iconst (v := 0) C dL_node_1 rfl ?_
  refine zn_aload_n C dL_node_2 rfl (j := 0) rfl ?_
  refine zn_iload_n C dL_node_3 rfl (j := 1) rfl ?_
  refine zn_iload_n C dL_node_4 rfl (j := 2) rfl ?_
  refine zn_callX (tys1 := tysC cI cN cW) (N := 88) (ad := ad) (cf := wC cI cN cW ad σ) (q0 := 0) (wl := []) (wr := [(o, .inl (cL, 1, .inr (.inl f)))]) (As := [.int x1, .int x2]) (rest := [.int 0, .ref o]) C (fun w h => zw_in h) pk_X3_node zl_L_19 (t_X3_nodeB hl0 hJ σ x1 x2 hg hb) (by decide) hJ hX (fun h => h.sub [0, 1, 2] rfl) zc_recvS rfl rfl rfl (Nat.le_of_ble_eq_true rfl) dL_node_5 (by decide) rfl ⟨0, 10, 13, 13⟩ (by rw [htab]; rfl) (by decide) (by decide) (zw_in zl_Lc) (fun q => ?_)
  refine zn_astore (lv' := [(4, .ref q), (0, .ref (ad 0)), (1, .int x1), (2, .int x2), (3, .ref o)]) C dL_node_13 (by decide) rfl ?_
  refine zn_iconst (v := 1) C dL_node_15 rfl ?_
  refine zn_widen (k' := 1) (n' := 6) (by decide) (by decide) ?_
  exact zn_iret C hr ⟨rfl, rfl⟩ dL_node_16
