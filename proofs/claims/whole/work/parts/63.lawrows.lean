section ZLR
variable {p : Program} {l : Launch} {e : Env} {R : Room} {s : State} {m : MethodId} {args : Array Value} {below : List Frame} {meth : Method} {c : Code} {D : va_G} {tys : List (ClassId × FieldType)} {A : Nat → Prop} {nL : Nat} {Q : State → Prop} {ws ws' : va_W} {k n : Nat} {cc : ByteArray} {Ts : List Cond} {own : String} {pc : Nat} {lv : List (Nat × Value)} {st rest : List Value}
theorem zn_sld (C : zn_C p s m args meth c cc nL Ts own D vwCl tys A) {b L : Nat} {xs : Nat → Int32} (hX : va_X b L xs s s.heap) (hbl : b < s.heap.size) (hbA : ¬ A b) {i : Int32} (hin : vp_in i L) (hdg : decode cc pc = .ok (.iaload, 1)) (kk : zn_Z p l e R s m args below meth c D vwCl A nL Q ws k n (pc + 1) lv (.int (xs i.toNatClampNeg) :: st)) : zn_Z p l e R s m args below meth c D vwCl A nL Q ws k n pc lv (.int i :: .ref b :: st) :=
  fun H locs ls hP hD hS hl => va_sld C.1.1 C.1.2.1 hX hbl hbA hS hin hdg (kk H locs ls hP hD hS hl)
theorem zn_slen (C : zn_C p s m args meth c cc nL Ts own D vwCl tys A) {b L : Nat} {xs : Nat → Int32} (hX : va_X b L xs s s.heap) (hbl : b < s.heap.size) (hbA : ¬ A b) (hdg : decode cc pc = .ok (.arraylength, 1)) (kk : zn_Z p l e R s m args below meth c D vwCl A nL Q ws k n (pc + 1) lv (.int (Int32.ofNat L) :: st)) : zn_Z p l e R s m args below meth c D vwCl A nL Q ws k n pc lv (.ref b :: st) :=
  fun H locs ls hP hD hS hl => va_slen C.1.1 C.1.2.1 hX hbl hbA hS hdg (kk H locs ls hP hD hS hl)
/-- script[i + j] -/
theorem zl_read (C : zn_C p s m args meth c cc nL Ts own D vwCl tys A) {b L i j ja jb : Nat} {z : Int} {xs : Nat → Int32} (hX : va_X b L xs s s.heap) (hbl : b < s.heap.size) (hbA : ¬ A b) (hin : i + j < L) (hL : L ≤ 2560) (hz : Int32.ofInt z = nI j) (h0 : lv[ja]? = some (0, .ref b)) (h4 : lv[jb]? = some (4, .int (nI i))) (d0 : decode cc pc = .ok (.aload_n 0, 1)) (d1 : decode cc (pc + 1) = .ok (.iload 4, 2)) (d3 : decode cc (pc + 3) = .ok (.iconst z, 1)) (d4 : decode cc (pc + 4) = .ok (.iadd, 1)) (d5 : decode cc (pc + 5) = .ok (.iaload, 1)) (kk : zn_Z p l e R s m args below meth c D vwCl A nL Q ws k n (pc + 6) lv (.int (xs (i + j)) :: st)) : zn_Z p l e R s m args below meth c D vwCl A nL Q ws k n pc lv (st) := by
  refine zn_aload_n C d0 rfl h0 ?_
  refine zn_iload C d1 h4 ?_
  refine zn_iconst (v := nI j) C d3 hz ?_
  refine zn_iadd C d4 ?_
  rw [nI_add]
  refine zn_sld C hX hbl hbA (vp_in_nI hin (by omega)) d5 ?_
  rw [nI_clamp (by omega)]
  exact kk
theorem zn_oneR {wl w : va_W} (kk : zn_Z p l e R s m args below meth c D vwCl A nL Q (wl ++ w) k n pc lv (st)) : zn_Z p l e R s m args below meth c D vwCl A nL Q (wl ++ (w ++ [])) k n pc lv (st) := by rw [List.append_nil]; exact kk
theorem zn_perm (hp : ws.Perm ws') (kk : zn_Z p l e R s m args below meth c D vwCl A nL Q ws' k n pc lv (st)) : zn_Z p l e R s m args below meth c D vwCl A nL Q ws k n pc lv (st) :=
  fun H locs ls hP hD hS hl => kk H locs ls (zn_Pm.mpr fun q hq => zn_Pm.mp hP q (hp.mem_iff.mpr hq)) (zn_Dm.mpr ⟨(hp.pairwise_iff (fun h => Ne.symm h)).mp (zn_Dm.mp hD).1, fun q hq => (zn_Dm.mp hD).2 q (hp.mem_iff.mpr hq)⟩) hS hl
/-- a helper is called -/
theorem zn_hcall (C : zn_C p s m args meth c cc nL Ts own D vwCl tys A) (hsub : ∀ w ∈ zw_G, w ∈ Ts) {tys1 : List (ClassId × FieldType)} {y : MethodName} {i0 index maxL : Nat} {As : List Value} {bytes : ByteArray} {hh : List (Nat × Nat × Nat × Nat)} {wl w0 : va_W} {P : Option Value → va_W → Prop} (hM : zh_M l D tys1 y (Cond.codeWith y bytes maxL (some .int) hh :: zw_G) (zn_rm 7 1 6) As w0 P) (hcode : Cond.codeWith y bytes maxL (some .int) hh ∈ zw_G) (hini : Cond.initialized y.cls ∈ zw_G) (hlink : Cond.methodLink own index y ∈ zw_G) (hsta : Cond.static y ∈ zw_G) (hy : y.cls ≠ "java/lang/invoke/MethodHandle" ∧ y.cls ≠ "java/lang/invoke/VarHandle" ∧ (parseMethodDescriptor y.desc).map (fun d => d.parameters.length) = some i0) (hR : 7 + 1 ≤ R.frames ∧ 8 + (maxL + 11) + 30 * 7 ≤ R.locals) (hX : zx_P A s) (hty : va_K D vwCl tys s → va_K D vwCl tys1 s) (hn : As.length = i0) {st0 : List Value} (hst : st0 = As.reverse ++ rest) (hW : (rest.map fun v => v.category).sum ≤ 8) (hdg : decode cc pc = .ok (.invokestatic index, 3)) (hcs : k + 1 ≤ R.cells ∧ n + 6 ≤ R.slots) (hw : ws = wl ++ w0)
    (kk : ∀ (v : Option Value) (w1 : va_W), P v w1 → zn_Z p l e R s m args below meth c D vwCl A nL Q (wl ++ w1) (k + 1) (n + 6) (pc + 3) lv (v.toList ++ rest)) : zn_Z p l e R s m args below meth c D vwCl A nL Q ws k n pc lv (st0) := by
  have hw2 : ws = wl ++ (w0 ++ []) := by rw [List.append_nil]; exact hw
  subst hw2
  have hts := C.1.2.2.2.2
  intro H locs ls hP hD hS hl
  have hA : ∀ q, va_A w0 H.size q → A q := fun q h => by
    rcases zn_Am.mp h with ⟨e, he⟩ | h
    · exact (zn_Dm.mp hD).2 (q, e) (List.mem_append_right _ (List.mem_append_left _ he))
    · exact C.2.2.1 q (Nat.le_trans hS.1 h)
  refine zn_back C hP hD hS hl (vx_runSW (hh := hh) (bytes := bytes) (maxL := maxL) (ret := some .int) (n := i0) C.1 (hM H.size) ⟨⟨rfl, rfl, hR.1, hR.2, pay_in hts (zn_goodH hsub hcode), List.mem_cons_self⟩, hts _ (hsub _ hcode), hts _ (hsub _ hini), ⟨hy.1, hy.2.1⟩, fun sig h => by
      have h2 := hy.2.2
      rw [h] at h2
      exact (Option.some.inj h2).symm, hts _ (hsub _ hlink), hts _ (hsub _ hsta)⟩
    ⟨fun a U g mk q => by
      obtain ⟨q0, q1, qP, qK, qD, qX⟩ := q
      exact ⟨q0, q1, qP, va_K.moved (u := U) (U := U.calling g mk a) (Vm.Alike.refl U.vm) qK, qD, zx_Pcall (V := U.calling g mk a) rfl rfl qX⟩,
     fun U hU hW => ⟨rfl, by rw [hU], by rw [hU]; exact zn_mid hP, va_K.moved hW.alike (hty C.2.1), zn_midD hD, zx_Pwarm (locs := locs) hX hW (by rw [hU]; exact hS) hA⟩⟩ rfl hn hl.1 hst (lv_room hW) hdg hcs) ?_ (fun _ h => h) (fun v w1 hp => zn_oneR (kk v w1 hp))
  intro st v t h0 hq
  obtain ⟨⟨v1, w1, hv, hp, hP1, hD1⟩, hF⟩ := hq
  obtain rfl := Outcome.returned.inj hv
  exact ⟨w1, hp, hP1, hD1, hF⟩
end ZLR
theorem zw_tbl : ∀ w ∈ zw_G, w ∈ lw_tbl := fun w h => (List.mem_filter.mp h).1
theorem zl_cnd {L t : Nat} (hL : L ≤ 2560) (ht : 5 * t ≤ 2600) : Int32.ofNat L - 5 < nI (5 * t) ↔ L < 5 * t + 5 := by
  by_cases h5 : 5 ≤ L
  · have e : Int32.ofNat L - 5 = nI (L - 5) := by
      have h1 : nI (L - 5) + nI 5 = nI L := by rw [nI_add, Nat.sub_add_cancel h5]
      have h2 : Int32.ofNat L = nI (L - 5) + 5 := h1.symm
      rw [h2, Int32.add_sub_cancel]
    rw [e, nI_ltI (by omega) (by omega)]
    omega
  · have h0 : Int32.ofNat L - 5 < 0 := by
      rcases (show L = 0 ∨ L = 1 ∨ L = 2 ∨ L = 3 ∨ L = 4 by omega) with rfl | rfl | rfl | rfl | rfl <;> decide
    have h1 : 0 ≤ nI (5 * t) := nI_pos' (by omega)
    constructor
    · intro _; omega
    · intro _
      rw [Int32.lt_iff_toInt_lt] at h0 ⊢
      rw [Int32.le_iff_toInt_le] at h1
      omega
abbrev zL_W (cI cN cW cZ cL : ClassId) (ad am : Nat → Nat) (o : Nat) (σ τ : zs_T) (f : Nat → Int64) : va_W := zs_wl 31 am (wM cI cZ am τ) ++ (zs_wl 88 ad (wC cI cN cW ad σ) ++ [(o, .inl (cL, 1, .inr (.inl f)))])
theorem lg_same (x : Int64) : lg_cmp x x = 0 := by
  unfold lg_cmp
  rw [if_neg (fun h => Int64.lt_irrefl h), if_pos rfl]
