theorem zv_c8 : Cond.classLink RL 8 RX3 ∈ lw_tbl := List.mem_of_getElem? (i := 49) (by decide +kernel)
theorem zv_c23 : Cond.classLink RL 23 RX4 ∈ lw_tbl := List.mem_of_getElem? (i := 510) (by decide +kernel)
theorem zv_iX0 : Cond.instantiable RX0 8 ∈ lw_tbl := List.mem_of_getElem? (i := 61) (by decide +kernel)
theorem zv_nX0 : Cond.initialized RX0 ∈ lw_tbl := List.mem_of_getElem? (i := 41) (by decide +kernel)
theorem zv_iX1 : Cond.instantiable RX1 2 ∈ lw_tbl := List.mem_of_getElem? (i := 106) (by decide +kernel)
theorem zv_nX1 : Cond.initialized RX1 ∈ lw_tbl := List.mem_of_getElem? (i := 43) (by decide +kernel)
theorem zv_iX2 : Cond.instantiable RX2 19 ∈ lw_tbl := List.mem_of_getElem? (i := 100) (by decide +kernel)
theorem zv_nX2 : Cond.initialized RX2 ∈ lw_tbl := List.mem_of_getElem? (i := 42) (by decide +kernel)
theorem zv_iX3 : Cond.instantiable RX3 6 ∈ lw_tbl := List.mem_of_getElem? (i := 50) (by decide +kernel)
theorem zv_nX3 : Cond.initialized RX3 ∈ lw_tbl := List.mem_of_getElem? (i := 40) (by decide +kernel)
theorem zv_iX4 : Cond.instantiable RX4 34 ∈ lw_tbl := List.mem_of_getElem? (i := 511) (by decide +kernel)
theorem zv_nX4 : Cond.initialized RX4 ∈ lw_tbl := List.mem_of_getElem? (i := 44) (by decide +kernel)
theorem zv_l22 : Cond.methodLink RL 22 yX3_init ∈ lw_tbl := List.mem_of_getElem? (i := 51) (by decide +kernel)
theorem zv_mX3 : Cond.instanceMethod yX3_init ∈ lw_tbl := List.mem_of_getElem? (i := 52) (by decide +kernel)
set_option maxRecDepth 20000 in
theorem zv_kX3 : Cond.code yX3_init cX3_init 2 none ∈ zw_G := zw_mem 53 rfl rfl
theorem zv_l25 : Cond.methodLink RL 25 yX4_init ∈ lw_tbl := List.mem_of_getElem? (i := 512) (by decide +kernel)
theorem zv_mX4 : Cond.instanceMethod yX4_init ∈ lw_tbl := List.mem_of_getElem? (i := 513) (by decide +kernel)
set_option maxRecDepth 20000 in
theorem zv_kX4 : Cond.code yX4_init cX4_init 2 none ∈ zw_G := zw_mem 514 rfl rfl
theorem zv_35 : Cond.methodLinkNest RX3 35 yX0_init RX3 ∈ lw_tbl := List.mem_of_getElem? (i := 62) (by decide +kernel)
theorem zv_36 : Cond.methodLinkNest RX3 36 yX2_init RX3 ∈ lw_tbl := List.mem_of_getElem? (i := 101) (by decide +kernel)
theorem zv_o0 : Cond.arrayOver (.object RX0) ∈ lw_tbl := List.mem_of_getElem? (i := 58) (by decide +kernel)
theorem zv_o2 : Cond.arrayOver (.object RX2) ∈ lw_tbl := List.mem_of_getElem? (i := 60) (by decide +kernel)
theorem zv_aint : Cond.arrayClass .int ∈ lw_tbl := List.mem_of_getElem? (i := 99) (by decide +kernel)
theorem zv_aboolean : Cond.arrayClass .boolean ∈ lw_tbl := List.mem_of_getElem? (i := 619) (by decide +kernel)
theorem zv_along : Cond.arrayClass .long ∈ lw_tbl := List.mem_of_getElem? (i := 713) (by decide +kernel)
theorem zv_d1 : Cond.declares (Bundle.initS "java/lang/RuntimeException") ∈ lw_tbl := List.mem_of_getElem? (i := 431) (by decide +kernel)
theorem zv_d2 : Cond.declares (Bundle.initS "java/lang/Exception") ∈ lw_tbl := List.mem_of_getElem? (i := 433) (by decide +kernel)
theorem zv_d3 : Cond.declares (Bundle.initS Bundle.tN) ∈ lw_tbl := List.mem_of_getElem? (i := 435) (by decide +kernel)
theorem zv_d4 : Cond.castable zx_N zx_N ∈ lw_tbl := List.mem_of_getElem? (i := 429) (by decide +kernel)
theorem zv_s63 : Cond.stringRef RX3 63 "no such process" ∈ lw_tbl := List.mem_of_getElem? (i := 466) (by decide +kernel)
theorem zv_s101 : Cond.stringRef RX3 101 "a process has no such number" ∈ lw_tbl := List.mem_of_getElem? (i := 500) (by decide +kernel)
theorem zv_s106 : Cond.stringRef RX3 106 "no such node" ∈ lw_tbl := List.mem_of_getElem? (i := 508) (by decide +kernel)
theorem zv_s133 : Cond.stringRef RX3 133 "a node has no such number" ∈ lw_tbl := List.mem_of_getElem? (i := 509) (by decide +kernel)
theorem zv_u : Cond.laysStatic Bundle.tN "UNASSIGNED_STACK" Bundle.steD ∈ lw_tbl := List.mem_of_getElem? (i := 454) (by decide +kernel)
theorem zv_v : Cond.laysStatic Bundle.tN "SUPPRESSED_SENTINEL" Bundle.listD ∈ lw_tbl := List.mem_of_getElem? (i := 456) (by decide +kernel)
theorem zv_nT : Cond.initialized Bundle.tN ∈ lw_tbl := List.mem_of_getElem? (i := 45) (by decide +kernel)
section ZLS
variable {p : Program} {l : Launch} {e : Env} {s : State} {m : MethodId} {below : List Frame} {meth : Method} {c : Code} {D : va_G} {cI cN cW cZ cL : ClassId} {ad am : Nat → Nat} {o b L : Nat} {xs : Nat → Int32}
theorem zn_lret (C : zn_C p s m #[Value.ref b] meth c cL_law 7 lw_tbl RL D vwCl (tysA cI cN cW cZ cL) (fun q : Nat => s.heap.size ≤ q)) (hr : meth.sig.returnType = ret) {ws : va_W} {k n pc : Nat} {lv : List (Nat × Value)} (hk : k ≤ 603523) (hn : n ≤ 7285534) (hdg : decode cL_law pc = .ok (.ireturn, 1)) : zn_Z p l e room_1 s m #[Value.ref b] below meth c D vwCl (fun q : Nat => s.heap.size ≤ q) 7 (lw_Z below #[Value.ref b] s) ws k n pc lv [.int 1] :=
  fun H locs ls hP hD hS hl => va_forget (fun q hq => hS.2.2 q hq) (W.widen hk hn (lw_ret C.1.1 C.1.2.1 hr C.2.2.2 hdg))
set_option maxRecDepth 20000 in
theorem zL_loop (C : zn_C p s m #[Value.ref b] meth c cL_law 7 lw_tbl RL D vwCl (tysA cI cN cW cZ cL) (fun q : Nat => s.heap.size ≤ q)) (hr : meth.sig.returnType = ret) (hl0 : l.stackTraces = false) (hX : zx_P (fun q : Nat => s.heap.size ≤ q) s) (hxs : va_X b L xs s s.heap) (hbl : b < s.heap.size) (hJ : zs_J 88 ad) (hJm : zs_J 31 am) (hL : L ≤ 2560) :
    ∀ (N t : Nat) (σ τ : zs_T) (f : Nat → Int64), t ≤ 512 → L < 5 * (t + N) + 5 → zr_E σ τ → zr_I (1000 * t) τ → zn_Z p l e room_1 s m #[Value.ref b] below meth c D vwCl (fun q : Nat => s.heap.size ≤ q) 7 (lw_Z below #[Value.ref b] s) (zL_W cI cN cW cZ cL ad am o σ τ f) (120 + t) (1925 + 6 * t) 23 [(4, .int (nI (5 * t))), (3, .ref o), (2, .ref (am 0)), (1, .ref (ad 0)), (0, .ref b)] [] := by
  intro N
  induction N with
  | zero =>
    intro t σ τ f ht hN hE hI
    refine zn_iload C dL_law_23 (j := 0) rfl ?_
    refine zn_aload_n C dL_law_25 rfl (j := 4) rfl ?_
    refine zn_slen C hxs hbl (zl_nA hbl) dL_law_26 ?_
    refine zn_iconst (v := 5) C dL_law_27 rfl ?_
    refine zn_isub C dL_law_28 ?_
    refine zn_icmp_gt (tgt := 455) C dL_law_29 (by decide) (fun _ => ?_) (fun q => absurd ((zl_cnd hL (by omega)).mpr (by omega)) q)
    refine zn_iconst (v := 1) C dL_law_455 rfl ?_
    exact zn_lret C hr (by omega) (by omega) dL_law_456
  | succ N ih =>
    intro t σ τ f ht hN hE hI
    refine zn_iload C dL_law_23 (j := 0) rfl ?_
    refine zn_aload_n C dL_law_25 rfl (j := 4) rfl ?_
    refine zn_slen C hxs hbl (zl_nA hbl) dL_law_26 ?_
    refine zn_iconst (v := 5) C dL_law_27 rfl ?_
    refine zn_isub C dL_law_28 ?_
    refine zn_icmp_gt (tgt := 455) C dL_law_29 (by decide) (fun _ => ?_) (fun q => ?_)
    · refine zn_iconst (v := 1) C dL_law_455 rfl ?_
      exact zn_lret C hr (by omega) (by omega) dL_law_456
    · have hlt : 5 * t + 5 ≤ L := by
        rcases Nat.lt_or_ge L (5 * t + 5) with h | h
        · exact absurd ((zl_cnd hL (by omega)).mpr h) q
        · exact h
      refine zn_aload_n C dL_law_32 rfl (j := 4) rfl ?_
      refine zn_iload C dL_law_33 (j := 0) rfl ?_
      refine zn_sld C hxs hbl (zl_nA hbl) (vp_in_nI (by omega) (by omega)) dL_law_35 ?_
      refine zn_bipush (v := 7) C dL_law_36 rfl ?_
      refine zn_iand C dL_law_38 ?_
      have kk : ∀ (σ' τ' : zs_T) (f' : Nat → Int64), zr_E σ' τ' → zr_I (1000 * (t + 1)) τ' → zn_Z p l e room_1 s m #[Value.ref b] below meth c D vwCl (fun q : Nat => s.heap.size ≤ q) 7 (lw_Z below #[Value.ref b] s) (zL_W cI cN cW cZ cL ad am o σ' τ' f') (120 + (t + 1)) (1925 + 6 * (t + 1)) 449 [(4, .int (nI (5 * t))), (3, .ref o), (2, .ref (am 0)), (1, .ref (ad 0)), (0, .ref b)] [] := by
        intro σ' τ' f' hE' hI'
        refine zn_iinc (v := nI (5 * (t + 1))) (lv' := [(4, .int (nI (5 * (t + 1)))), (3, .ref o), (2, .ref (am 0)), (1, .ref (ad 0)), (0, .ref b)]) C dL_law_449 (j := 0) rfl (nI_add (5 * t) 5) (by decide) rfl ?_
        refine zn_goto (tgt := 23) C dL_law_452 (by decide) ?_
        exact ih (t + 1) σ' τ' f' (by omega) (by omega) hE' hI'
      obtain ⟨j, hj, ej⟩ := pk_andE (xs (nI (5 * t)).toNatClampNeg) (m := 7) 3 (by decide)
      rcases (show j = 0 ∨ j = 1 ∨ j = 2 ∨ j = 3 ∨ j = 4 ∨ j = 5 ∨ j = 6 ∨ j = 7 by have h8 : j < 8 := hj; omega) with rfl | rfl | rfl | rfl | rfl | rfl | rfl | rfl
      · exact zn_tabIn (kx := nI 0) (tgt := 84) C dL_law_39 ej (by decide) (by decide) rfl (by decide) (zL_c0 C hl0 hX hxs hbl hJ hJm hL hlt hE hI kk)
      · exact zn_tabIn (kx := nI 1) (tgt := 145) C dL_law_39 ej (by decide) (by decide) rfl (by decide) (zL_c1 C hl0 hX hxs hbl hJ hJm hL hlt hE hI kk)
      · exact zn_tabIn (kx := nI 2) (tgt := 170) C dL_law_39 ej (by decide) (by decide) rfl (by decide) (zL_c2 C hl0 hX hxs hbl hJ hJm hL hlt hE hI kk)
      · exact zn_tabIn (kx := nI 3) (tgt := 207) C dL_law_39 ej (by decide) (by decide) rfl (by decide) (zL_c3 C hl0 hX hxs hbl hJ hJm hL hlt hE hI kk)
      · exact zn_tabIn (kx := nI 4) (tgt := 263) C dL_law_39 ej (by decide) (by decide) rfl (by decide) (zL_c4 C hl0 hX hxs hbl hJ hJm hL hlt hE hI kk)
      · exact zn_tabIn (kx := nI 5) (tgt := 331) C dL_law_39 ej (by decide) (by decide) rfl (by decide) (zL_c5 C hl0 hX hxs hbl hJ hJm hL hlt hE hI kk)
      · exact zn_tabIn (kx := nI 6) (tgt := 399) C dL_law_39 ej (by decide) (by decide) rfl (by decide) (zL_c6 C hl0 hX hxs hbl hJ hJm hL hlt hE hI kk)
      · exact zn_tabIn (kx := nI 7) (tgt := 424) C dL_law_39 ej (by decide) (by decide) rfl (by decide) (zL_c7 C hl0 hX hxs hbl hJ hJm hL hlt hE hI kk)
set_option maxRecDepth 20000 in
theorem zL_start (C : zn_C p s m #[Value.ref b] meth c cL_law 7 lw_tbl RL D vwCl (tysA cI cN cW cZ cL) (fun q : Nat => s.heap.size ≤ q)) (hr : meth.sig.returnType = ret) (hl0 : l.stackTraces = false) (hX : zx_P (fun q : Nat => s.heap.size ≤ q) s) (hB : zb_X s) (hxs : va_X b L xs s s.heap) (hbl : b < s.heap.size) (hL : L ≤ 2560) : zn_Z p l e room_1 s m #[Value.ref b] below meth c D vwCl (fun q : Nat => s.heap.size ≤ q) 7 (lw_Z below #[Value.ref b] s) [] 0 0 0 [(0, .ref b)] [] := by
  have hts := C.1.2.2.2.2
  refine zn_new (ci := 3) (fs := [.null, .null, .null, .int 0, .int 0, .int 0]) C (fun w h => zw_tbl _ (zw_fX3 w h)) tyX3 tyX3_ok zv_c8 zv_iX3 zv_nX3 rfl (fun j hj => by rcases (show j = 0 ∨ j = 1 ∨ j = 2 ∨ j = 3 ∨ j = 4 ∨ j = 5 by omega) with rfl | rfl | rfl | rfl | rfl | rfl <;> rfl) (by decide) (by decide) dL_law_0 (fun q0 => ?_)
  refine zn_dup C dL_law_3 rfl ?_
  refine zn_callI (tys1 := tysA cI cN cW cZ cL) (wl := []) (w0 := [(q0, .inr (3, [.null, .null, .null, .int 0, .int 0, .int 0]))]) (wr := []) (As := []) (rest := [.ref q0]) C (k_X3_init q0) (fun h => h) zb_Xb (fun U hW => zb_Xw hB hW) (cwI 0 hts (zn_good zw_tbl zv_kX3) rfl rfl rfl (hts _ zv_nX3) (hts _ zv_l22) (hts _ zv_mX3) rfl (by decide +kernel) ⟨by decide, by decide⟩) rfl rfl (Nat.le_of_ble_eq_true rfl) dL_law_4 ⟨by decide, by decide⟩ rfl ?_
  rintro _ _ ⟨rfl, ad, h, rfl, hJ, hh, rfl⟩
  refine zn_astore_n (lv' := [(1, .ref (ad 0)), (0, .ref b)]) C dL_law_7 rfl (by decide) rfl ?_
  refine zn_new (ci := 4) (fs := [.int 0, .null, .null, .null, .null, .null, .null, .null, .null, .null, .int 0, .int 0, .int 0, .null, .null, .null, .null, .null, .null, .null, .null, .null, .null, .null, .null, .null, .null, .null, .null, .null, .null, .null, .null, .null]) C (fun w h => zw_tbl _ (zw_fX4 w h)) tyX4 tyX4_ok zv_c23 zv_iX4 zv_nX4 rfl (fun j hj => by rcases (show j = 0 ∨ j = 1 ∨ j = 2 ∨ j = 3 ∨ j = 4 ∨ j = 5 ∨ j = 6 ∨ j = 7 ∨ j = 8 ∨ j = 9 ∨ j = 10 ∨ j = 11 ∨ j = 12 ∨ j = 13 ∨ j = 14 ∨ j = 15 ∨ j = 16 ∨ j = 17 ∨ j = 18 ∨ j = 19 ∨ j = 20 ∨ j = 21 ∨ j = 22 ∨ j = 23 ∨ j = 24 ∨ j = 25 ∨ j = 26 ∨ j = 27 ∨ j = 28 ∨ j = 29 ∨ j = 30 ∨ j = 31 ∨ j = 32 ∨ j = 33 by omega) with rfl | rfl | rfl | rfl | rfl | rfl | rfl | rfl | rfl | rfl | rfl | rfl | rfl | rfl | rfl | rfl | rfl | rfl | rfl | rfl | rfl | rfl | rfl | rfl | rfl | rfl | rfl | rfl | rfl | rfl | rfl | rfl | rfl | rfl <;> rfl) (by decide) (by decide) dL_law_8 (fun q1 => ?_)
  refine zn_dup C dL_law_11 rfl ?_
  refine zn_callI (tys1 := tysA cI cN cW cZ cL) (wl := [] ++ (zs_wl 88 ad (wC cI cN cW ad (zb_first h)) ++ [])) (w0 := [(q1, .inr (4, [.int 0, .null, .null, .null, .null, .null, .null, .null, .null, .null, .int 0, .int 0, .int 0, .null, .null, .null, .null, .null, .null, .null, .null, .null, .null, .null, .null, .null, .null, .null, .null, .null, .null, .null, .null, .null]))]) (wr := []) (As := []) (rest := [.ref q1]) C (k_X4_init q1) (fun h => h) (fun _ _ _ h => h) (fun _ _ => trivial) (cwI 0 hts (zn_good zw_tbl zv_kX4) rfl rfl rfl (hts _ zv_nX4) (hts _ zv_l25) (hts _ zv_mX4) rfl (by decide +kernel) ⟨by decide, by decide⟩) rfl rfl (Nat.le_of_ble_eq_true rfl) dL_law_12 ⟨by decide, by decide⟩ rfl ?_
  rintro _ _ ⟨rfl, am, τ, rfl, hT, h00, h06, rfl⟩
  refine zn_astore_n (lv' := [(2, .ref (am 0)), (1, .ref (ad 0)), (0, .ref b)]) C dL_law_15 rfl (by decide) rfl ?_
  refine zn_iconst (v := 1) C dL_law_16 rfl ?_
  refine zn_newa (atype := .long) (ty := .long) (N := 1) (a0 := (1, .inr (.inl (fun _ => 0)))) C zv_along rfl 4 rfl (fun _ => rfl) (by decide) (by decide) (by decide) (by decide) (by decide) dL_law_17 (fun o => ?_)
  refine zn_astore_n (lv' := [(3, .ref o), (2, .ref (am 0)), (1, .ref (ad 0)), (0, .ref b)]) C dL_law_19 rfl (by decide) rfl ?_
  refine zn_iconst (v := nI (5 * 0)) C dL_law_20 rfl ?_
  refine zn_istore (lv' := [(4, .int (nI (5 * 0))), (3, .ref o), (2, .ref (am 0)), (1, .ref (ad 0)), (0, .ref b)]) C dL_law_21 (by decide) rfl ?_
  refine zn_perm (ws' := zL_W cI cN cW cZ cL ad am o (zb_first h) τ (fun _ => 0)) ?_ ?_
  · unfold zL_W
    rw [List.nil_append, List.append_nil, List.append_nil, ← List.append_assoc (zs_wl 31 am _)]
    exact List.perm_append_comm.append_right _
  · intro H locs ls hP hD hS hl
    have hJm : zs_J 31 am := fun i j hi hj he => hD.1 i j _ _ (by unfold zL_W; rw [List.getElem?_append_left (by rw [zs_wl_len]; exact hi)]; exact zs_wl_get hi) (by unfold zL_W; rw [List.getElem?_append_left (by rw [zs_wl_len]; exact hj)]; exact zs_wl_get hj) he
    exact zn_widen (k' := 120 + 0) (n' := 1925 + 6 * 0) (by decide) (by decide) (zL_loop C hr hl0 hX hxs hbl hJ hJm hL 512 0 (zb_first h) τ (fun _ => 0) (by omega) (by omega) (zh_E hh hT h00 h06) (zh_I hT h00 h06)) H locs ls hP hD hS hl
end ZLS
theorem zv_arr {U : State} {args : Array Value} {ty : FieldType} (hp : ∀ a, U.vm.findClass ("[" ++ ty.toString) = some a → va_RA U a ty) (h : (Cond.arrayClass ty).before args U = true) : ∃ cA, ArrOfT U cA ty ∧ va_RA U cA ty := by
  obtain ⟨cA, k, comp, h1, h2, h3⟩ := Cond.arrayClass_spec h
  exact ⟨cA, fun n z => ⟨fun k h => (by cases h), k, h2, comp, h3⟩, hp cA h1⟩
theorem zv_arrO {U : State} {args : Array Value} {C : String} (h : (Cond.arrayOver (.object C)).before args U = true) : ∃ cA, ArrOfT U cA (.object C) ∧ va_RA U cA (.object C) := by
  obtain ⟨comp, cA, k, h1, h2, h3, h4, h5⟩ := Cond.arrayOver_spec h
  exact ⟨cA, fun n z => ⟨fun k h => (by cases h), k, h3, comp, h4⟩, k, comp, h3, h4, h1, h5⟩
theorem zv_str {U : State} {args : Array Value} {k : Nat} {tx : String} (h1 : (Cond.stringRef RX3 k tx).before args U = true) (h2 : (Cond.exactly (.string RX3 k) "java/lang/String").before args U = true) : ∃ a, vk_R RX3 k tx a U := by
  obtain ⟨a, -, -, -, h3, -⟩ := Cond.exactly_spec h2
  exact ⟨a, vk_R.of h1 h3⟩
set_option maxRecDepth 100000 in
set_option maxHeartbeats 4000000 in
/-- what the Statement gives of the start, for a throw -/
theorem zv_P {s : State} {b : Nat} (hts : ∀ w ∈ lw_tbl, w.before #[Value.ref b] s = true) (hgv : (Jvm.Cond.and given_1 narrow_1).before #[Value.ref b] s = true) : zx_P (fun q : Nat => s.heap.size ≤ q) s := by
  have hs := flat_of_before _ hgv
  refine ⟨⟨va_Nw.of rfl (hts _ zv_d1), va_Nw.of rfl (hts _ zv_d2), va_Nw.of rfl (hts _ zv_d3), va_Nw.of rfl (hts _ zv_d4)⟩, ⟨?_, ?_, ?_, ?_⟩, ?_, ?_⟩
  · exact zv_str (hts _ zv_s63) (hs _ (by decide +kernel))
  · exact zv_str (hts _ zv_s101) (hs _ (by decide +kernel))
  · exact zv_str (hts _ zv_s106) (hs _ (by decide +kernel))
  · exact zv_str (hts _ zv_s133) (hs _ (by decide +kernel))
  · exact vx_Zqof (hts _ zv_u) (hts _ zv_nT) (hs _ (by decide +kernel)) (fun a h => Nat.not_le.mpr h)
  · exact vx_Zqof (hts _ zv_v) (hts _ zv_nT) (hs _ (by decide +kernel)) (fun a h => Nat.not_le.mpr h)
/-- THE LAW, from its entry -/
theorem whole_start {p : Program} {e : Env} {s : State} {m : MethodId} {below : List Frame} {meth : Method} {c : Code} (l : Launch) (hl0 : l.stackTraces = false) {b L : Nat} {xs : Nat → Int32} (hL : L ≤ 2560) (C0 : lw_At p s m meth c b L xs) : W p l e room_1 s m #[Value.ref b] below meth c s.heap [] 0 0 (lw_Z below #[Value.ref b] s) (entryFrame m ([Value.ref b] : List Value).toArray 7) := by
  obtain ⟨hx, hb, hr, hml, hown, hts, hX, hbl, hlocks, hgv⟩ := id C0
  obtain ⟨c0, i0, k0⟩ := u_known (C := RX0) (T := TX0) (N := 8) (n := 8) hts (fun w h => zw_tbl _ (zw_fX0 w h)) (hts _ zv_iX0)
  obtain ⟨c1, i1, k1⟩ := u_known (C := RX1) (T := TX1) (N := 2) (n := 2) hts (fun w h => zw_tbl _ (zw_fX1 w h)) (hts _ zv_iX1)
  obtain ⟨c2, i2, k2⟩ := u_known (C := RX2) (T := TX2) (N := 19) (n := 19) hts (fun w h => zw_tbl _ (zw_fX2 w h)) (hts _ zv_iX2)
  obtain ⟨c3, i3, k3⟩ := u_known (C := RX3) (T := TX3) (N := 6) (n := 6) hts (fun w h => zw_tbl _ (zw_fX3 w h)) (hts _ zv_iX3)
  obtain ⟨c4, i4, k4⟩ := u_known (C := RX4) (T := TX4) (N := 34) (n := 34) hts (fun w h => zw_tbl _ (zw_fX4 w h)) (hts _ zv_iX4)
  obtain ⟨cI, aI, rI⟩ := zv_arr (U := s) (ty := .int) (fun a h => h) (hts _ zv_aint)
  obtain ⟨cZ, aZ, rZ⟩ := zv_arr (U := s) (ty := .boolean) (fun a h => h) (hts _ zv_aboolean)
  obtain ⟨cL, aL, rL⟩ := zv_arr (U := s) (ty := .long) (fun a h => h) (hts _ zv_along)
  obtain ⟨cN, aN, rN⟩ := zv_arrO (hts _ zv_o0)
  obtain ⟨cW, aW, rW⟩ := zv_arrO (hts _ zv_o2)
  obtain ⟨D, hK⟩ : ∃ D : va_G, va_K D vwCl (tysA cI cN cW cZ cL) s := by
    refine ⟨(fun k => if k = 0 then c0 else if k = 1 then c1 else if k = 2 then c2 else if k = 3 then c3 else c4, fun k => if k = 0 then i0 else if k = 1 then i1 else if k = 2 then i2 else if k = 3 then i3 else i4), fun k q hq => ?_, fun k q hq => ?_⟩
    · match k, hq with
      | 0, hq => cases hq; exact k0
      | 1, hq => cases hq; exact k1
      | 2, hq => cases hq; exact k2
      | 3, hq => cases hq; exact k3
      | 4, hq => cases hq; exact k4
      | k + 5, hq => simp [vwCl] at hq
    · match k, hq with
      | 0, hq => cases hq; exact ⟨aI, rI⟩
      | 1, hq => cases hq; exact ⟨aN, rN⟩
      | 2, hq => cases hq; exact ⟨aW, rW⟩
      | 3, hq => cases hq; exact ⟨aZ, rZ⟩
      | 4, hq => cases hq; exact ⟨aL, rL⟩
      | k + 5, hq => simp at hq
  have hB : zb_X s := ⟨va_Nw.of rfl (hts _ zv_35), va_Nw.of rfl (hts _ zv_36), va_AO.of (hts _ zv_o0), va_AO.of (hts _ zv_o2)⟩
  have hl := lv_entry ([Value.ref b]) (n := 7) (Nat.le_of_ble_eq_true rfl)
  rw [lg_entry_eq]
  exact zL_start (cI := cI) (cN := cN) (cW := cW) (cZ := cZ) (cL := cL) (D := D) ⟨⟨hx, hb, hml, hown, hts⟩, hK, fun q h => h, hlocks⟩ hr hl0 (zv_P hts hgv) hB hX hbl hL s.heap [] _ (fun k q h => by simp at h) ⟨fun i j p q h => by simp at h, fun k q h => by simp at h⟩ va_S.rf hl
