theorem zn_good {Ts : List Cond} {z : MethodName} {bz : ByteArray} {nz : Nat} {rz : Option FieldType} (hsub : ∀ w ∈ zw_G, w ∈ Ts) (hz : Cond.code z bz nz rz ∈ zw_G) : GoodIn Ts (Cond.code z bz nz rz :: zw_G) := by
  have key : ∀ w ∈ zw_G, w ∈ Ts ∧ ((w.onTables && w.keeps) = true ∨ ∃ ty, w = .arrayClass ty) := fun w h => ⟨hsub w h, good_of_word (List.mem_filter.mp h).2⟩
  intro w hw
  rcases List.mem_cons.mp hw with h | h
  · rw [h]; exact key _ hz
  · exact key _ h
section ZNK
variable {p : Program} {l : Launch} {e : Env} {R : Room} {s : State} {m : MethodId} {args : Array Value} {below : List Frame} {meth : Method} {c : Code} {D : va_G} {tys : List (ClassId × FieldType)} {A : Nat → Prop} {nL : Nat} {Q : State → Prop} {ws : va_W} {k n : Nat} {cc : ByteArray} {Ts : List Cond} {own : String} {pc : Nat} {lv : List (Nat × Value)} {st rest : List Value}
theorem zn_one {w : va_W} (kk : zn_Z p l e R s m args below meth c D vwCl A nL Q w k n pc lv st) : zn_Z p l e R s m args below meth c D vwCl A nL Q ([] ++ (w ++ [])) k n pc lv st := by rw [List.append_nil]; exact kk
theorem zn_kVi (C : zn_C p s m args meth c cc nL Ts own D vwCl tys A) (hsub : ∀ w ∈ zw_G, w ∈ Ts) {tys1 : List (ClassId × FieldType)} {N : Nat} {ad : Nat → Nat} {wf : zs_T → Nat → va_E} {σ : zs_T} {out1 : zs_O} {y : MethodName} {q0 ci i0 index maxL d : Nat} {As : List Value} {bytes : ByteArray} {ret : Option FieldType} {fs : List Value} {q2 : u_T × Nat} {wl wr : va_W} (pk : zw_Vt y bytes maxL ret i0) (hlink : Cond.methodLink own index y ∈ zw_G) (hM : zs_M l D vwCl tys1 N ad wf y (Cond.code y bytes maxL ret :: zw_G) (zw_rm d) (.ref (ad q0) :: As) zs_vi σ out1) (hR : d + 1 ≤ R.frames ∧ 8 + (maxL + 11) + 30 * d ≤ R.locals) (hJ : zs_J N ad) (hty : va_K D vwCl tys s → va_K D vwCl tys1 s) (hq : q0 < N ∧ wf σ q0 = .inr (ci, fs)) (hc : vwCl[ci]? = some (y.cls, q2)) (hn : As.length = i0) {st0 : List Value} (hst : st0 = As.reverse ++ .ref (ad q0) :: rest) (hW : (rest.map fun v => v.category).sum ≤ 8) (hdg : decode cc pc = .ok (.invokevirtual index, 3)) (hcs : k ≤ R.cells ∧ n ≤ R.slots) (hw : ws = wl ++ (zs_wl N ad (wf σ) ++ wr))
    (kk : zn_Z p l e R s m args below meth c D vwCl A nL Q (wl ++ (zs_wl N ad (wf out1.1) ++ wr)) k n (pc + 3) lv (.int out1.2 :: rest)) : zn_Z p l e R s m args below meth c D vwCl A nL Q ws k n pc lv (st0) := by
  obtain ⟨p1, p2, p3, p4, p5⟩ := pk
  have hts := C.1.2.2.2.2
  exact zn_callVi (q1 := (y.cls, q2)) C hM hJ hty ⟨callB_of i0 hts (zn_good hsub p4) rfl rfl rfl (hts _ (hsub _ p3)) (hts _ (hsub _ hlink)) p5 hR, hts _ (hsub _ p1), hts _ (hsub _ p2)⟩ hq hc hn hst hW hdg hcs hw kk
theorem zn_kSi (C : zn_C p s m args meth c cc nL Ts own D vwCl tys A) (hsub : ∀ w ∈ zw_G, w ∈ Ts) {tys1 : List (ClassId × FieldType)} {N : Nat} {ad : Nat → Nat} {wf : zs_T → Nat → va_E} {σ : zs_T} {out1 : zs_O} {y : MethodName} {i0 index maxL d : Nat} {As : List Value} {bytes : ByteArray} {ret : Option FieldType} {wl wr : va_W} (pk : zw_St y bytes maxL ret i0) (hlink : Cond.methodLink own index y ∈ zw_G) (hM : zs_M l D vwCl tys1 N ad wf y (Cond.code y bytes maxL ret :: zw_G) (zw_rm d) As zs_vi σ out1) (hR : d + 1 ≤ R.frames ∧ 8 + (maxL + 11) + 30 * d ≤ R.locals) (hJ : zs_J N ad) (hty : va_K D vwCl tys s → va_K D vwCl tys1 s) (hn : As.length = i0) {st0 : List Value} (hst : st0 = As.reverse ++ rest) (hW : (rest.map fun v => v.category).sum ≤ 8) (hdg : decode cc pc = .ok (.invokestatic index, 3)) (hcs : k ≤ R.cells ∧ n ≤ R.slots) (hw : ws = wl ++ (zs_wl N ad (wf σ) ++ wr))
    (kk : zn_Z p l e R s m args below meth c D vwCl A nL Q (wl ++ (zs_wl N ad (wf out1.1) ++ wr)) k n (pc + 3) lv (.int out1.2 :: rest)) : zn_Z p l e R s m args below meth c D vwCl A nL Q ws k n pc lv (st0) := by
  obtain ⟨p1, p3, p4, p5⟩ := pk
  have hts := C.1.2.2.2.2
  exact zn_callSi C hM hJ hty ⟨callB_of i0 hts (zn_good hsub p4) rfl rfl rfl (hts _ (hsub _ p3)) (hts _ (hsub _ hlink)) p5 hR, hts _ (hsub _ p1)⟩ hn hst hW hdg hcs hw kk
theorem zn_kVv (C : zn_C p s m args meth c cc nL Ts own D vwCl tys A) (hsub : ∀ w ∈ zw_G, w ∈ Ts) {tys1 : List (ClassId × FieldType)} {N : Nat} {ad : Nat → Nat} {wf : zs_T → Nat → va_E} {σ : zs_T} {out1 : zs_O} {y : MethodName} {q0 ci i0 index maxL d : Nat} {As : List Value} {bytes : ByteArray} {ret : Option FieldType} {fs : List Value} {q2 : u_T × Nat} {wl wr : va_W} (pk : zw_Vt y bytes maxL ret i0) (hlink : Cond.methodLink own index y ∈ zw_G) (hM : zs_M l D vwCl tys1 N ad wf y (Cond.code y bytes maxL ret :: zw_G) (zw_rm d) (.ref (ad q0) :: As) zs_vv σ out1) (hR : d + 1 ≤ R.frames ∧ 8 + (maxL + 11) + 30 * d ≤ R.locals) (hJ : zs_J N ad) (hty : va_K D vwCl tys s → va_K D vwCl tys1 s) (hq : q0 < N ∧ wf σ q0 = .inr (ci, fs)) (hc : vwCl[ci]? = some (y.cls, q2)) (hn : As.length = i0) {st0 : List Value} (hst : st0 = As.reverse ++ .ref (ad q0) :: rest) (hW : (rest.map fun v => v.category).sum ≤ 8) (hdg : decode cc pc = .ok (.invokevirtual index, 3)) (hcs : k ≤ R.cells ∧ n ≤ R.slots) (hw : ws = wl ++ (zs_wl N ad (wf σ) ++ wr))
    (kk : zn_Z p l e R s m args below meth c D vwCl A nL Q (wl ++ (zs_wl N ad (wf out1.1) ++ wr)) k n (pc + 3) lv (rest)) : zn_Z p l e R s m args below meth c D vwCl A nL Q ws k n pc lv (st0) := by
  obtain ⟨p1, p2, p3, p4, p5⟩ := pk
  have hts := C.1.2.2.2.2
  exact zn_callVv (q1 := (y.cls, q2)) C hM hJ hty ⟨callB_of i0 hts (zn_good hsub p4) rfl rfl rfl (hts _ (hsub _ p3)) (hts _ (hsub _ hlink)) p5 hR, hts _ (hsub _ p1), hts _ (hsub _ p2)⟩ hq hc hn hst hW hdg hcs hw kk
theorem zn_kSv (C : zn_C p s m args meth c cc nL Ts own D vwCl tys A) (hsub : ∀ w ∈ zw_G, w ∈ Ts) {tys1 : List (ClassId × FieldType)} {N : Nat} {ad : Nat → Nat} {wf : zs_T → Nat → va_E} {σ : zs_T} {out1 : zs_O} {y : MethodName} {i0 index maxL d : Nat} {As : List Value} {bytes : ByteArray} {ret : Option FieldType} {wl wr : va_W} (pk : zw_St y bytes maxL ret i0) (hlink : Cond.methodLink own index y ∈ zw_G) (hM : zs_M l D vwCl tys1 N ad wf y (Cond.code y bytes maxL ret :: zw_G) (zw_rm d) As zs_vv σ out1) (hR : d + 1 ≤ R.frames ∧ 8 + (maxL + 11) + 30 * d ≤ R.locals) (hJ : zs_J N ad) (hty : va_K D vwCl tys s → va_K D vwCl tys1 s) (hn : As.length = i0) {st0 : List Value} (hst : st0 = As.reverse ++ rest) (hW : (rest.map fun v => v.category).sum ≤ 8) (hdg : decode cc pc = .ok (.invokestatic index, 3)) (hcs : k ≤ R.cells ∧ n ≤ R.slots) (hw : ws = wl ++ (zs_wl N ad (wf σ) ++ wr))
    (kk : zn_Z p l e R s m args below meth c D vwCl A nL Q (wl ++ (zs_wl N ad (wf out1.1) ++ wr)) k n (pc + 3) lv (rest)) : zn_Z p l e R s m args below meth c D vwCl A nL Q ws k n pc lv (st0) := by
  obtain ⟨p1, p3, p4, p5⟩ := pk
  have hts := C.1.2.2.2.2
  exact zn_callSv C hM hJ hty ⟨callB_of i0 hts (zn_good hsub p4) rfl rfl rfl (hts _ (hsub _ p3)) (hts _ (hsub _ hlink)) p5 hR, hts _ (hsub _ p1)⟩ hn hst hW hdg hcs hw kk
end ZNK
theorem zl_oi_X3 : Cond.methodLink RX3 1 Lib.objectInit ∈ zw_G := zw_mem 54 (by decide +kernel) rfl
theorem zl_cX3_9 : Cond.classLink RX3 9 RX0 ∈ zw_G := zw_mem 57 (by decide +kernel) rfl
theorem zl_cX3_15 : Cond.classLink RX3 15 RX2 ∈ zw_G := zw_mem 59 (by decide +kernel) rfl
theorem zl_iX0 : Cond.instantiable RX0 8 ∈ zw_G := zw_mem 61 (by decide +kernel) rfl
theorem zl_iX2 : Cond.instantiable RX2 19 ∈ zw_G := zw_mem 100 (by decide +kernel) rfl
theorem zl_nX0 : Cond.initialized RX0 ∈ zw_G := zw_mem 41 (by decide +kernel) rfl
theorem zl_nX2 : Cond.initialized RX2 ∈ zw_G := zw_mem 42 (by decide +kernel) rfl
theorem zl_kX0_init : Cond.code yX0_init cX0_init 1 none ∈ zw_G := zw_mem 64 (by decide +kernel) rfl
theorem zl_kX2_init : Cond.code yX2_init cX2_init 1 none ∈ zw_G := zw_mem 103 (by decide +kernel) rfl
theorem zl_mX0_init : Cond.instanceMethod yX0_init ∈ zw_G := zw_mem 63 (by decide +kernel) rfl
theorem zl_mX2_init : Cond.instanceMethod yX2_init ∈ zw_G := zw_mem 102 (by decide +kernel) rfl
theorem zl_fX3_11 : Cond.fieldLink RX3 11 "SplitStore" "nodes" "[LSplitStore$Node;" ∈ zw_G := zw_mem 210 (by decide +kernel) rfl
theorem zl_fX3_17 : Cond.fieldLink RX3 17 "SplitStore" "workers" "[LSplitStore$Worker;" ∈ zw_G := zw_mem 211 (by decide +kernel) rfl
theorem zl_fX3_21 : Cond.fieldLink RX3 21 "SplitStore" "bucketNodes" "[I" ∈ zw_G := zw_mem 212 (by decide +kernel) rfl
theorem zl_fX3_25 : Cond.fieldLink RX3 25 "SplitStore" "size" "I" ∈ zw_G := zw_mem 213 (by decide +kernel) rfl
theorem zl_fX3_29 : Cond.fieldLink RX3 29 "SplitStore" "count" "I" ∈ zw_G := zw_mem 214 (by decide +kernel) rfl
theorem zl_fX3_32 : Cond.fieldLink RX3 32 "SplitStore" "era" "I" ∈ zw_G := zw_mem 215 (by decide +kernel) rfl
def zb_X (U : State) : Prop := va_Nw (.methodLinkNest RX3 35 yX0_init RX3) U ∧ va_Nw (.methodLinkNest RX3 36 yX2_init RX3) U ∧ va_AO RX0 U ∧ va_AO RX2 U
theorem zb_Xb (U V : State) (h : U.vm = V.vm) (hX : zb_X U) : zb_X V := ⟨va_Nw.same rfl h hX.1, va_Nw.same rfl h hX.2.1, va_AO.moved (by rw [h]; exact Vm.Alike.refl _) hX.2.2.1, va_AO.moved (by rw [h]; exact Vm.Alike.refl _) hX.2.2.2⟩
theorem zb_Xw {s U : State} (hX : zb_X s) (hW : s.WarmedH U.vm) : zb_X U := ⟨va_Nw.warmM hW hX.1, va_Nw.warmM hW hX.2.1, va_AO.moved hW.alike hX.2.2.1, va_AO.moved hW.alike hX.2.2.2⟩
section ZI
variable {p : Program} {l : Launch} {e : Env} {R : Room} {s : State} {m : MethodId} {args : Array Value} {below : List Frame} {meth : Method} {c : Code} {D : va_G} {cI cN cW cZ cL : ClassId} {A : Nat → Prop} {Q : State → Prop} {w0 : Cond} {g : Nat → Option Nat} {h : Nat → Int32}
set_option maxRecDepth 20000 in
theorem k_X3_l1 (C : zn_C p s m args meth c cX3_init 2 (w0 :: zw_G) RX3 D vwCl (tysA cI cN cW cZ cL) A) (hX : zb_X s) (h0 : Nat) (kk : ∀ (ws : va_W) (b : Nat → Nat) (f : Nat → Option Nat), zb_W cI cN cW 68 ws b f g h → b 0 = h0 → (∀ t, t < 64 → f t = some (b (4 + t))) → zn_Z p l e (zn_rm 3 87 960) s m args below meth c D vwCl A 2 Q ws (67) (596) 71 [(1, .int (nI 64)), (0, .ref h0)] []) :
    ∀ (N j : Nat) (ws : va_W) (b : Nat → Nat) (f : Nat → Option Nat), N + j = 64 → zb_W cI cN cW (4 + j) ws b f g h → b 0 = h0 → (∀ t, t < j → f t = some (b (4 + t))) → zn_Z p l e (zn_rm 3 87 960) s m args below meth c D vwCl A 2 Q ws (3 + j) (84 + 8 * j) 46 [(1, .int (nI j)), (0, .ref h0)] [] := by
  intro N
  induction N with
  | zero =>
    intro j ws b f hj hw hb hf
    obtain rfl : j = 64 := by omega
    refine zn_iload_n C dX3_init_46 rfl (j := 0) rfl ?_
    refine zn_bipush (v := nI 64) C dX3_init_47 rfl ?_
    exact zn_icmp_ge (tgt := 71) C dX3_init_49 (by decide) (fun _ => kk ws b f hw hb hf) (fun q => absurd (nI_le (Nat.le_refl 64) (by decide)) q)
  | succ N ih =>
    intro j ws b f hj hw hb hf
    have hj64 : j < 64 := by omega
    have he : ws[0]? = some (h0, .inr (3, [.ref (b 1), .ref (b 2), .ref (b 3), .int 1, .int 0, .int 1])) := by rw [← hb]; exact hw.2 0 (by omega)
    refine zn_iload_n C dX3_init_46 rfl (j := 0) rfl ?_
    refine zn_bipush (v := nI 64) C dX3_init_47 rfl ?_
    refine zn_icmp_ge (tgt := 71) C dX3_init_49 (by decide) (fun q => absurd q (nI_ge hj64 (by decide))) (fun _ => ?_)
    refine zn_aload_n C dX3_init_52 rfl (j := 1) rfl ?_
    refine zn_get C (fun w h => zw_in (zw_fX3 w h)) 0 he rfl 0 (by decide) (zw_in zl_fX3_11) rfl dX3_init_53 ?_
    refine zn_iload_n C dX3_init_56 rfl (j := 0) rfl ?_
    refine zn_new (ci := 0) (fs := [.int 0, .int 0, .int 0, .int 0, .int 0, .int 0, .int 0, .int 0]) C (fun w h => zw_in (zw_fX0 w h)) tyX0 tyX0_ok (zw_in zl_cX3_9) (zw_in zl_iX0) (zw_in zl_nX0) rfl (fun j hj => by rcases (show j = 0 ∨ j = 1 ∨ j = 2 ∨ j = 3 ∨ j = 4 ∨ j = 5 ∨ j = 6 ∨ j = 7 by omega) with rfl | rfl | rfl | rfl | rfl | rfl | rfl | rfl <;> rfl) (by show 3 + j + 1 ≤ 87; omega) (by show 84 + 8 * j + 8 ≤ 960; omega) dX3_init_57 (fun q => ?_)
    refine zn_dup C dX3_init_60 rfl ?_
    refine zn_callIN (tys1 := tysA cI cN cW cZ cL) (wl := ws) (w0 := [(q, .inr (0, [.int 0, .int 0, .int 0, .int 0, .int 0, .int 0, .int 0, .int 0]))]) (wr := []) (As := []) (rest := [.ref q, .int (nI j), .ref (b 1)]) C (k_X0_init q) (fun h => h) (fun _ _ _ h => h) (fun _ _ => trivial) ⟨va_cnB 0 C.1.2.2.2.2 (zw_good zl_kX0_init) rfl rfl rfl hX.1 (C.1.2.2.2.2 _ (zw_in zl_nX0)) (by decide +kernel) ⟨Nat.le_of_ble_eq_true rfl, Nat.le_of_ble_eq_true rfl⟩, rfl, C.1.2.2.2.2 _ (zw_in zl_mX0_init)⟩ rfl rfl (Nat.le_of_ble_eq_true rfl) dX3_init_61 ⟨by show 3 + j + 1 + 0 ≤ 87; omega, by show 84 + 8 * j + 8 + 0 ≤ 960; omega⟩ rfl ?_
    rintro _ _ ⟨rfl, rfl⟩
    refine zn_aast (v := q) (r := (RX0, TX0, 8)) (ws' := (ws ++ ([(q, .inr (0, zb_node))] : va_W)).set 1 (b 1, .inl (cN, 64, .inr (.inr (.inr (.inr (va_up f j (some q)))))))) C 1 1 (4 + j) 0 (by rw [List.getElem?_append_left (by rw [hw.1]; omega)]; exact hw.2 1 (by omega)) rfl (by rw [List.getElem?_append_right (by rw [hw.1]; omega), hw.1, Nat.sub_self]; rfl) rfl (vp_in_nI hj64 (by decide)) (by rw [nI_clamp (by omega)]; rfl) dX3_init_64 ?_
    refine zn_iinc (v := nI (j + 1)) (lv' := [(1, .int (nI (j + 1))), (0, .ref h0)]) C dX3_init_65 (j := 0) rfl (nI_1 j) (by decide) rfl ?_
    refine zn_goto (tgt := 46) C dX3_init_68 (by decide) ?_
    refine zn_widen (k' := 3 + (j + 1)) (n' := 84 + 8 * (j + 1)) (by omega) (by omega) ?_
    refine ih (j + 1) _ _ _ (by omega) (zb_addNode (q := q) hw hj64) (by simp only [va_up]; rw [if_neg (by omega)]; exact hb) (fun t ht => ?_)
    by_cases htj : t = j
    · subst htj; simp [va_up]
    · simp only [va_up]
      rw [if_neg htj, if_neg (by omega)]
      exact hf t (by omega)
set_option maxRecDepth 20000 in
theorem k_X3_l2 {f : Nat → Option Nat} (C : zn_C p s m args meth c cX3_init 2 (w0 :: zw_G) RX3 D vwCl (tysA cI cN cW cZ cL) A) (hX : zb_X s) (h0 : Nat) (kk : ∀ (ws : va_W) (b : Nat → Nat) (g : Nat → Option Nat), zb_W cI cN cW 88 ws b f g h → b 0 = h0 → (∀ t, t < 64 → f t = some (b (4 + t))) → (∀ t, t < 4 → g t = some (b (68 + 5 * t))) → zn_Z p l e (zn_rm 3 87 960) s m args below meth c D vwCl A 2 Q ws (87) (960) 97 [(1, .int (nI 4)), (0, .ref h0)] []) :
    ∀ (N j : Nat) (ws : va_W) (b : Nat → Nat) (g : Nat → Option Nat), N + j = 4 → zb_W cI cN cW (68 + 5 * j) ws b f g h → b 0 = h0 → (∀ t, t < 64 → f t = some (b (4 + t))) → (∀ t, t < j → g t = some (b (68 + 5 * t))) → zn_Z p l e (zn_rm 3 87 960) s m args below meth c D vwCl A 2 Q ws (67 + 5 * j) (596 + 91 * j) 73 [(1, .int (nI j)), (0, .ref h0)] [] := by
  intro N
  induction N with
  | zero =>
    intro j ws b g hj hw hb hf hg
    obtain rfl : j = 4 := by omega
    refine zn_iload_n C dX3_init_73 rfl (j := 0) rfl ?_
    refine zn_iconst (v := nI 4) C dX3_init_74 rfl ?_
    exact zn_icmp_ge (tgt := 97) C dX3_init_75 (by decide) (fun _ => kk ws b g hw hb hf hg) (fun q => absurd (nI_le (Nat.le_refl 4) (by decide)) q)
  | succ N ih =>
    intro j ws b g hj hw hb hf hg
    have hj4 : j < 4 := by omega
    have he : ws[0]? = some (h0, .inr (3, [.ref (b 1), .ref (b 2), .ref (b 3), .int 1, .int 0, .int 1])) := by rw [← hb]; exact hw.2 0 (by omega)
    refine zn_iload_n C dX3_init_73 rfl (j := 0) rfl ?_
    refine zn_iconst (v := nI 4) C dX3_init_74 rfl ?_
    refine zn_icmp_ge (tgt := 97) C dX3_init_75 (by decide) (fun q => absurd q (nI_ge hj4 (by decide))) (fun _ => ?_)
    refine zn_aload_n C dX3_init_78 rfl (j := 1) rfl ?_
    refine zn_get C (fun w h => zw_in (zw_fX3 w h)) 0 he rfl 1 (by decide) (zw_in zl_fX3_17) rfl dX3_init_79 ?_
    refine zn_iload_n C dX3_init_82 rfl (j := 0) rfl ?_
    refine zn_new (ci := 2) (fs := [.int 0, .int 0, .int 0, .int 0, .int 0, .int 0, .int 0, .null, .int 0, .int 0, .int 0, .int 0, .int 0, .int 0, .int 0, .int 0, .int 0, .int 0, .null]) C (fun w h => zw_in (zw_fX2 w h)) tyX2 tyX2_ok (zw_in zl_cX3_15) (zw_in zl_iX2) (zw_in zl_nX2) rfl (fun j hj => by rcases (show j = 0 ∨ j = 1 ∨ j = 2 ∨ j = 3 ∨ j = 4 ∨ j = 5 ∨ j = 6 ∨ j = 7 ∨ j = 8 ∨ j = 9 ∨ j = 10 ∨ j = 11 ∨ j = 12 ∨ j = 13 ∨ j = 14 ∨ j = 15 ∨ j = 16 ∨ j = 17 ∨ j = 18 by omega) with rfl | rfl | rfl | rfl | rfl | rfl | rfl | rfl | rfl | rfl | rfl | rfl | rfl | rfl | rfl | rfl | rfl | rfl | rfl <;> rfl) (by show 67 + 5 * j + 1 ≤ 87; omega) (by show 596 + 91 * j + 19 ≤ 960; omega) dX3_init_83 (fun q0 => ?_)
    refine zn_dup C dX3_init_86 rfl ?_
    refine zn_callIN (tys1 := tysA cI cN cW cZ cL) (wl := ws) (w0 := [(q0, .inr (2, [.int 0, .int 0, .int 0, .int 0, .int 0, .int 0, .int 0, .null, .int 0, .int 0, .int 0, .int 0, .int 0, .int 0, .int 0, .int 0, .int 0, .int 0, .null]))]) (wr := []) (As := []) (rest := [.ref q0, .int (nI j), .ref (b 2)]) C (k_X2_init q0) (fun h => h) (fun _ _ _ h => h) (fun _ _ => trivial) ⟨va_cnB 0 C.1.2.2.2.2 (zw_good zl_kX2_init) rfl rfl rfl hX.2.1 (C.1.2.2.2.2 _ (zw_in zl_nX2)) (by decide +kernel) ⟨Nat.le_of_ble_eq_true rfl, Nat.le_of_ble_eq_true rfl⟩, rfl, C.1.2.2.2.2 _ (zw_in zl_mX2_init)⟩ rfl rfl (Nat.le_of_ble_eq_true rfl) dX3_init_87 ⟨by show 67 + 5 * j + 1 + 4 ≤ 87; omega, by show 596 + 91 * j + 19 + 72 ≤ 960; omega⟩ rfl ?_
    rintro _ _ ⟨rfl, q1, q2, q3, q4, rfl⟩
    refine zn_aast (v := q0) (r := (RX2, TX2, 19)) (ws' := (ws ++ zb_5 cI q0 q1 q2 q3 q4).set 2 (b 2, .inl (cW, 4, .inr (.inr (.inr (.inr (va_up g j (some q0)))))))) C 2 2 (68 + 5 * j) 2 (by rw [List.getElem?_append_left (by rw [hw.1]; omega)]; exact hw.2 2 (by omega)) rfl (by rw [List.getElem?_append_right (by rw [hw.1]; omega), hw.1, Nat.sub_self]; rfl) rfl (vp_in_nI hj4 (by decide)) (by rw [nI_clamp (by omega)]; rfl) dX3_init_90 ?_
    refine zn_iinc (v := nI (j + 1)) (lv' := [(1, .int (nI (j + 1))), (0, .ref h0)]) C dX3_init_91 (j := 0) rfl (nI_1 j) (by decide) rfl ?_
    refine zn_goto (tgt := 73) C dX3_init_94 (by decide) ?_
    refine zn_widen (k' := 67 + 5 * (j + 1)) (n' := 596 + 91 * (j + 1)) (by omega) (by omega) ?_
    refine ih (j + 1) _ _ _ (by omega) (zb_addWork (q0 := q0) hw) (by rw [zb_up5_lt (by omega)]; exact hb) (fun t ht => by rw [zb_up5_lt (by omega)]; exact hf t ht) (fun t ht => ?_)
    by_cases htj : t = j
    · subst htj; simp [va_up, zb_up5]
    · simp only [va_up]
      rw [if_neg htj, zb_up5_lt (by omega)]
      exact hg t (by omega)
set_option maxRecDepth 20000 in
theorem k_X3_l3 {b : Nat → Nat} {f : Nat → Option Nat} (C : zn_C p s m args meth c cX3_init 2 (w0 :: zw_G) RX3 D vwCl (tysA cI cN cW cZ cL) A) (h0 : Nat) (hb : b 0 = h0) (kk : ∀ (ws : va_W) (h : Nat → Int32), zb_W cI cN cW 88 ws b f g h → (∀ t, t < 16 → h t = -1) → zn_Z p l e (zn_rm 3 87 960) s m args below meth c D vwCl A 2 Q ws (87) (960) 118 [(1, .int (nI 16)), (0, .ref h0)] []) :
    ∀ (N j : Nat) (ws : va_W) (h : Nat → Int32), N + j = 16 → zb_W cI cN cW 88 ws b f g h → (∀ t, t < j → h t = -1) → zn_Z p l e (zn_rm 3 87 960) s m args below meth c D vwCl A 2 Q ws (87) (960) 99 [(1, .int (nI j)), (0, .ref h0)] [] := by
  intro N
  induction N with
  | zero =>
    intro j ws h hj hw hh
    obtain rfl : j = 16 := by omega
    refine zn_iload_n C dX3_init_99 rfl (j := 0) rfl ?_
    refine zn_bipush (v := nI 16) C dX3_init_100 rfl ?_
    exact zn_icmp_ge (tgt := 118) C dX3_init_102 (by decide) (fun _ => kk ws h hw hh) (fun q => absurd (nI_le (Nat.le_refl 16) (by decide)) q)
  | succ N ih =>
    intro j ws h hj hw hh
    have hj16 : j < 16 := by omega
    have he : ws[0]? = some (h0, .inr (3, [.ref (b 1), .ref (b 2), .ref (b 3), .int 1, .int 0, .int 1])) := by rw [← hb]; exact hw.2 0 (by omega)
    refine zn_iload_n C dX3_init_99 rfl (j := 0) rfl ?_
    refine zn_bipush (v := nI 16) C dX3_init_100 rfl ?_
    refine zn_icmp_ge (tgt := 118) C dX3_init_102 (by decide) (fun q => absurd q (nI_ge hj16 (by decide))) (fun _ => ?_)
    refine zn_aload_n C dX3_init_105 rfl (j := 1) rfl ?_
    refine zn_get C (fun w h => zw_in (zw_fX3 w h)) 0 he rfl 2 (by decide) (zw_in zl_fX3_21) rfl dX3_init_106 ?_
    refine zn_iload_n C dX3_init_109 rfl (j := 0) rfl ?_
    refine zn_iconst (v := -1) C dX3_init_110 rfl ?_
    refine zn_iast (ws' := ws.set 3 (b 3, .inl (cI, 16, .inl (upd h j (-1))))) C 3 0 (hw.2 3 (by omega)) rfl (vp_in_nI hj16 (by decide)) (by rw [nI_clamp (by omega)]) dX3_init_111 ?_
    refine zn_iinc (v := nI (j + 1)) (lv' := [(1, .int (nI (j + 1))), (0, .ref h0)]) C dX3_init_112 (j := 0) rfl (nI_1 j) (by decide) rfl ?_
    refine zn_goto (tgt := 99) C dX3_init_115 (by decide) ?_
    refine ih (j + 1) _ _ (by omega) (zb_setBk hw (by omega)) (fun t ht => ?_)
    by_cases htj : t = j
    · subst htj; exact pk_us
    · rw [pk_un htj]
      exact hh t (by omega)
end ZI

/-- the class's first state -/
def zb_first (h : Nat → Int32) : zs_T := zs_u (fn_X0_appear (zb_σ h) 0 (fr_X3_orderOfBucket (zb_σ h) 0) (-1) 0 1).1 31 0 0
set_option maxHeartbeats 2000000 in
set_option maxRecDepth 20000 in
theorem k_X3_init {l : Launch} {D : va_G} {cI cN cW cZ cL : ClassId} (h0 : Nat) : zn_M l D vwCl (tysA cI cN cW cZ cL) zb_X yX3_init (Cond.code yX3_init cX3_init 2 none :: zw_G) (zn_rm 3 87 960) [.ref h0] [(h0, .inr (3, [.null, .null, .null, .int 0, .int 0, .int 0]))] (fun v w => v = none ∧ ∃ (ad : Nat → Nat) (h : Nat → Int32), ad 0 = h0 ∧ zs_J 88 ad ∧ (∀ t, t < 16 → h t = -1) ∧ w = zs_wl 88 ad (wC cI cN cW ad (zb_first h))) 87 960 := by
  refine zn_ofZ (cc := cX3_init) (nL := 2) (ret := none) (lv0 := [(0, .ref h0)]) (by decide) rfl (Nat.le_of_ble_eq_true rfl) rfl ?_
  intro p e s m args below meth c C hr hnm hX
  refine zn_aload_n C dX3_init_0 rfl (j := 0) rfl ?_
  refine zn_objInit C (zw_in zl_oi_X3) (zw_in zl_oi_m) (zw_in zl_oi_c) (Nat.le_of_ble_eq_true rfl) (Nat.le_of_ble_eq_true rfl) dX3_init_1 ?_
  refine zn_aload_n C dX3_init_4 rfl (j := 0) rfl ?_
  refine zn_bipush (v := 64) C dX3_init_5 rfl ?_
  refine zn_newq (Cn := RX0) (N := 64) C (zw_in zl_cX3_9) hX.2.2.1 1 rfl (by decide) (by decide) (by decide) (by decide) (by decide) dX3_init_7 (fun a1 => ?_)
  refine zn_putF (ty := tyX3 0) (ws' := [(h0, .inr (3, [.ref a1, .null, .null, .int 0, .int 0, .int 0])), (a1, .inl (cN, 64, .inr (.inr (.inr (.inr (fun _ => none))))))]) C (fun w h => zw_in (zw_fX3 w h)) tyX3 tyX3_ok nmX3 0 rfl rfl 0 (by decide) (zw_in zl_fX3_11) rfl hnm rfl (by decide +kernel) rfl rfl (Nat.le_of_ble_eq_true rfl) rfl dX3_init_10 ?_
  refine zn_aload_n C dX3_init_13 rfl (j := 0) rfl ?_
  refine zn_iconst (v := 4) C dX3_init_14 rfl ?_
  refine zn_newq (Cn := RX2) (N := 4) C (zw_in zl_cX3_15) hX.2.2.2 2 rfl (by decide) (by decide) (by decide) (by decide) (by decide) dX3_init_15 (fun a2 => ?_)
  refine zn_putF (ty := tyX3 1) (ws' := [(h0, .inr (3, [.ref a1, .ref a2, .null, .int 0, .int 0, .int 0])), (a1, .inl (cN, 64, .inr (.inr (.inr (.inr (fun _ => none)))))), (a2, .inl (cW, 4, .inr (.inr (.inr (.inr (fun _ => none))))))]) C (fun w h => zw_in (zw_fX3 w h)) tyX3 tyX3_ok nmX3 0 rfl rfl 1 (by decide) (zw_in zl_fX3_17) rfl hnm rfl (by decide +kernel) rfl rfl (Nat.le_of_ble_eq_true rfl) rfl dX3_init_18 ?_
  refine zn_aload_n C dX3_init_21 rfl (j := 0) rfl ?_
  refine zn_bipush (v := 16) C dX3_init_22 rfl ?_
  refine zn_newa (atype := .int) (ty := .int) (N := 16) (a0 := (16, .inl (fun _ => 0))) C (zw_in zl_aint) rfl 0 rfl (fun _ => rfl) (by decide) (by decide) (by decide) (by decide) (by decide) dX3_init_24 (fun a3 => ?_)
  refine zn_putF (ty := tyX3 2) (ws' := [(h0, .inr (3, [.ref a1, .ref a2, .ref a3, .int 0, .int 0, .int 0])), (a1, .inl (cN, 64, .inr (.inr (.inr (.inr (fun _ => none)))))), (a2, .inl (cW, 4, .inr (.inr (.inr (.inr (fun _ => none)))))), (a3, .inl (cI, 16, .inl (fun _ => 0)))]) C (fun w h => zw_in (zw_fX3 w h)) tyX3 tyX3_ok nmX3 0 rfl rfl 2 (by decide) (zw_in zl_fX3_21) rfl hnm rfl (by decide +kernel) rfl rfl (Nat.le_of_ble_eq_true rfl) rfl dX3_init_26 ?_
  refine zn_aload_n C dX3_init_29 rfl (j := 0) rfl ?_
  refine zn_iconst (v := 1) C dX3_init_30 rfl ?_
  refine zn_put (ty := .int) (ws' := [(h0, .inr (3, [.ref a1, .ref a2, .ref a3, .int 1, .int 0, .int 0])), (a1, .inl (cN, 64, .inr (.inr (.inr (.inr (fun _ => none)))))), (a2, .inl (cW, 4, .inr (.inr (.inr (.inr (fun _ => none)))))), (a3, .inl (cI, 16, .inl (fun _ => 0)))]) C (fun w h => zw_in (zw_fX3 w h)) tyX3 tyX3_ok nmX3 0 rfl rfl 3 (by decide) (zw_in zl_fX3_25) rfl (by decide +kernel) rfl rfl (Nat.le_of_ble_eq_true rfl) rfl dX3_init_31 ?_
  refine zn_aload_n C dX3_init_34 rfl (j := 0) rfl ?_
  refine zn_iconst (v := 0) C dX3_init_35 rfl ?_
  refine zn_put (ty := .int) (ws' := [(h0, .inr (3, [.ref a1, .ref a2, .ref a3, .int 1, .int 0, .int 0])), (a1, .inl (cN, 64, .inr (.inr (.inr (.inr (fun _ => none)))))), (a2, .inl (cW, 4, .inr (.inr (.inr (.inr (fun _ => none)))))), (a3, .inl (cI, 16, .inl (fun _ => 0)))]) C (fun w h => zw_in (zw_fX3 w h)) tyX3 tyX3_ok nmX3 0 rfl rfl 4 (by decide) (zw_in zl_fX3_29) rfl (by decide +kernel) rfl rfl (Nat.le_of_ble_eq_true rfl) rfl dX3_init_36 ?_
  refine zn_aload_n C dX3_init_39 rfl (j := 0) rfl ?_
  refine zn_iconst (v := 1) C dX3_init_40 rfl ?_
  refine zn_put (ty := .int) (ws' := [(h0, .inr (3, [.ref a1, .ref a2, .ref a3, .int 1, .int 0, .int 1])), (a1, .inl (cN, 64, .inr (.inr (.inr (.inr (fun _ => none)))))), (a2, .inl (cW, 4, .inr (.inr (.inr (.inr (fun _ => none)))))), (a3, .inl (cI, 16, .inl (fun _ => 0)))]) C (fun w h => zw_in (zw_fX3 w h)) tyX3 tyX3_ok nmX3 0 rfl rfl 5 (by decide) (zw_in zl_fX3_32) rfl (by decide +kernel) rfl rfl (Nat.le_of_ble_eq_true rfl) rfl dX3_init_41 ?_
  refine zn_iconst (v := nI 0) C dX3_init_44 rfl ?_
  refine zn_istore_n (lv' := [(1, .int (nI 0)), (0, .ref h0)]) C dX3_init_45 rfl (by decide) rfl ?_
  refine zn_widen (k' := 3 + 0) (n' := 84 + 8 * 0) (by decide) (by decide) ?_
  refine k_X3_l1 C hX h0 ?_ 64 0 _ _ _ rfl zb_start rfl (fun t ht => absurd ht (by omega))
  intro ws b f hw hb hf
  refine zn_iconst (v := nI 0) C dX3_init_71 rfl ?_
  refine zn_istore_n (lv' := [(1, .int (nI 0)), (0, .ref h0)]) C dX3_init_72 rfl (by decide) rfl ?_
  refine k_X3_l2 C hX h0 ?_ 4 0 _ _ _ rfl hw hb hf (fun t ht => absurd ht (by omega))
  intro ws b g hw hb hf hg
  refine zn_iconst (v := nI 0) C dX3_init_97 rfl ?_
  refine zn_istore_n (lv' := [(1, .int (nI 0)), (0, .ref h0)]) C dX3_init_98 rfl (by decide) rfl ?_
  refine k_X3_l3 C h0 hb ?_ 16 0 _ _ rfl hw (fun t ht => absurd ht (by omega))
  intro ws h hw hh
  refine fun H locs ls hP hD hS hl => ?_
  obtain ⟨hD', hJ⟩ := zb_endD (cf := wC cI cN cW (fun i => b (zb_pi i)) (zb_σ h)) hw hD
  have hP' := zb_end (A := fun _ => True) hw hf hg hP
  have had : (fun i => b (zb_pi i)) 0 = h0 := hb
  generalize (fun i => b (zb_pi i)) = ad at hD' hJ hP' had
  refine (?_ : zn_Z p l e (zn_rm 3 87 960) s m args below meth c D vwCl _ 2 _ (zs_wl 88 ad (wC cI cN cW ad (zb_σ h))) 87 960 118 [(1, .int (nI 16)), (0, .ref h0)] []) H locs ls hP' hD' hS hl
  clear hP hD hS hl hP' hD'
  subst had
  have he : (zs_wl 88 ad (wC cI cN cW ad (zb_σ h)))[0]? = some (ad 0, .inr (3, [.ref (ad 1), .ref (ad 2), .ref (ad 3), .int 1, .int 0, .int 1])) := zs_wl_get (by decide)
  refine zn_aload_n C dX3_init_118 rfl (j := 1) rfl ?_
  refine zn_get C (fun w h => zw_in (zw_fX3 w h)) 0 he rfl 0 (by decide) (zw_in zl_fX3_11) rfl dX3_init_119 ?_
  refine zn_iconst (v := 0) C dX3_init_122 rfl ?_
  refine zn_aald (a1 := ad (4 + 0)) C 1 1 (by rw [zs_wl_get (by decide)]; rfl) rfl (by unfold vp_in; decide) rfl dX3_init_123 ?_
  refine zn_iconst (v := 0) C dX3_init_124 rfl ?_
  refine zn_kSi (tys1 := tysC cI cN cW) (N := 88) (ad := ad) (wf := wC cI cN cW ad) (σ := zb_σ h) (wl := []) (wr := []) (As := [.int 0]) (rest := [.ref (ad (4 + 0))]) C (fun w h => zw_in h) pk_X3_orderOfBucket lkX3_37 (m_X3_orderOfBucket hJ 0 (zb_σ h) 0 ⟨zq_ok3t _ _, trivial⟩) (by decide) hJ (fun h => h.sub [0, 1, 2] rfl) rfl rfl (Nat.le_of_ble_eq_true rfl) dX3_init_125 (by decide) (by rw [List.append_nil]; rfl) (zn_one ?_)
  refine zn_iconst (v := -1) C dX3_init_128 rfl ?_
  refine zn_iconst (v := 0) C dX3_init_129 rfl ?_
  refine zn_aload_n C dX3_init_130 rfl (j := 1) rfl ?_
  refine zn_get C (fun w h => zw_in (zw_fX3 w h)) 0 he rfl 5 (by decide) (zw_in zl_fX3_32) rfl dX3_init_131 ?_
  refine zn_kVv (tys1 := tysC cI cN cW) (N := 88) (ad := ad) (wf := wC cI cN cW ad) (σ := zb_σ h) (wl := []) (wr := []) (As := [.int (fr_X3_orderOfBucket (zb_σ h) 0), .int (-1), .int 0, .int 1]) (rest := []) C (fun w h => zw_in h) pk_X0_appear lkX3_41 (m_X0_appear hJ 0 (zb_σ h) 0 (fr_X3_orderOfBucket (zb_σ h) 0) (-1) 0 1 (by decide) (by repeat (first | exact trivial | constructor))) (by decide) hJ (fun h => h.sub [0, 1, 2] rfl) (zc_recvNode (by decide)) rfl rfl rfl (Nat.le_of_ble_eq_true rfl) dX3_init_134 (by decide) (by rw [List.append_nil]; rfl) (zn_one ?_)
  have he : ∀ σ : zs_T, (zs_wl 88 ad (wC cI cN cW ad σ))[0]? = some (ad 0, .inr (3, [.ref (ad 1), .ref (ad 2), .ref (ad 3), .int (σ 32 0), .int (σ 33 0), .int (σ 34 0)])) := fun σ => zs_wl_get (by decide)
  refine zn_aload_n C dX3_init_137 rfl (j := 1) rfl ?_
  refine zn_get C (fun w h => zw_in (zw_fX3 w h)) 0 (he _) rfl 2 (by decide) (zw_in zl_fX3_21) rfl dX3_init_138 ?_
  refine zn_iconst (v := 0) C dX3_init_141 rfl ?_
  refine zn_iconst (v := 0) C dX3_init_142 rfl ?_
  refine zn_iast (ws' := zs_wl 88 ad (wC cI cN cW ad (zb_first h))) C 3 0 (by rw [zs_wl_get (by decide)]; rfl) rfl (by unfold vp_in; decide) (zs_wl_set (zc_set_bk 0 0)) dX3_init_143 ?_
  exact zn_vret C hr ⟨rfl, ad, h, rfl, hJ, hh, rfl⟩ dX3_init_144
