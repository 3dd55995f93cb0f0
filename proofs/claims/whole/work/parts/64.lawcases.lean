section ZLC
variable {p : Program} {l : Launch} {e : Env} {s : State} {m : MethodId} {below : List Frame} {meth : Method} {c : Code} {D : va_G} {cI cN cW cZ cL : ClassId} {ad am : Nat → Nat} {o b L t : Nat} {xs : Nat → Int32} {Q : State → Prop} {σ τ : zs_T} {f : Nat → Int64}
theorem zl_nA (hbl : b < s.heap.size) : ¬ (fun q : Nat => s.heap.size ≤ q) b := Nat.not_le.mpr hbl
set_option maxRecDepth 20000 in
theorem zL_c0 (C : zn_C p s m #[Value.ref b] meth c cL_law 7 lw_tbl RL D vwCl (tysA cI cN cW cZ cL) (fun q : Nat => s.heap.size ≤ q)) (hl0 : l.stackTraces = false) (hX : zx_P (fun q : Nat => s.heap.size ≤ q) s) (hxs : va_X b L xs s s.heap) (hbl : b < s.heap.size) (hJ : zs_J 88 ad) (hJm : zs_J 31 am) (hL : L ≤ 2560) (ht : 5 * t + 5 ≤ L) (hE : zr_E σ τ) (hI : zr_I (1000 * t) τ)
    (kk : ∀ (σ' τ' : zs_T) (f' : Nat → Int64), zr_E σ' τ' → zr_I (1000 * (t + 1)) τ' → zn_Z p l e room_1 s m #[Value.ref b] below meth c D vwCl (fun q : Nat => s.heap.size ≤ q) 7 Q (zL_W cI cN cW cZ cL ad am o σ' τ' f') (120 + (t + 1)) (1925 + 6 * (t + 1)) 449 [(4, .int (nI (5 * t))), (3, .ref o), (2, .ref (am 0)), (1, .ref (ad 0)), (0, .ref b)] []) : zn_Z p l e room_1 s m #[Value.ref b] below meth c D vwCl (fun q : Nat => s.heap.size ≤ q) 7 Q (zL_W cI cN cW cZ cL ad am o σ τ f) (120 + t) (1925 + 6 * t) 84 [(4, .int (nI (5 * t))), (3, .ref o), (2, .ref (am 0)), (1, .ref (ad 0)), (0, .ref b)] [] := by
  obtain ⟨a1, a2, a3, a4⟩ := zf_start hE hI (xs (5 * t + 1)) (xs (5 * t + 2)) (xs (5 * t + 3)) (xs (5 * t + 4))
  refine zn_aload_n C dL_law_84 rfl (j := 3) rfl ?_
  refine zl_read (i := 5 * t) (j := 1) (z := 1) C hxs hbl (zl_nA hbl) (by omega) hL (by decide) (ja := 4) (jb := 0) rfl rfl dL_law_85 dL_law_86 dL_law_88 dL_law_89 dL_law_90 ?_
  refine zl_read (i := 5 * t) (j := 2) (z := 2) C hxs hbl (zl_nA hbl) (by omega) hL (by decide) (ja := 4) (jb := 0) rfl rfl dL_law_91 dL_law_92 dL_law_94 dL_law_95 dL_law_96 ?_
  refine zl_read (i := 5 * t) (j := 3) (z := 3) C hxs hbl (zl_nA hbl) (by omega) hL (by decide) (ja := 4) (jb := 0) rfl rfl dL_law_97 dL_law_98 dL_law_100 dL_law_101 dL_law_102 ?_
  refine zl_read (i := 5 * t) (j := 4) (z := 4) C hxs hbl (zl_nA hbl) (by omega) hL (by decide) (ja := 4) (jb := 0) rfl rfl dL_law_103 dL_law_104 dL_law_106 dL_law_107 dL_law_108 ?_
  refine zn_kVi (tys1 := tysC cI cN cW) (N := 88) (ad := ad) (wf := wC cI cN cW ad) (σ := σ) (q0 := 0) (wl := zs_wl 31 am (wM cI cZ am τ)) (wr := [(o, .inl (cL, 1, .inr (.inl f)))]) (As := [.int (xs (5 * t + 1)), .int (xs (5 * t + 2)), .int (xs (5 * t + 3)), .int (xs (5 * t + 4))]) (rest := []) C zw_tbl pk_X3_start zl_L_26 (m_X3_start hJ 0 σ (xs (5 * t + 1)) (xs (5 * t + 2)) (xs (5 * t + 3)) (xs (5 * t + 4))) (by decide) hJ (fun h => h.sub [0, 1, 2] rfl) zc_recvS rfl rfl rfl (Nat.le_of_ble_eq_true rfl) dL_law_109 ⟨by show 120 + t ≤ 603523; omega, by show 1925 + 6 * t ≤ 7285534; omega⟩ rfl ?_
  refine zn_aload_n C dL_law_112 rfl (j := 2) rfl ?_
  refine zl_read (i := 5 * t) (j := 1) (z := 1) C hxs hbl (zl_nA hbl) (by omega) hL (by decide) (ja := 4) (jb := 0) rfl rfl dL_law_113 dL_law_114 dL_law_116 dL_law_117 dL_law_118 ?_
  refine zl_read (i := 5 * t) (j := 2) (z := 2) C hxs hbl (zl_nA hbl) (by omega) hL (by decide) (ja := 4) (jb := 0) rfl rfl dL_law_119 dL_law_120 dL_law_122 dL_law_123 dL_law_124 ?_
  refine zl_read (i := 5 * t) (j := 3) (z := 3) C hxs hbl (zl_nA hbl) (by omega) hL (by decide) (ja := 4) (jb := 0) rfl rfl dL_law_125 dL_law_126 dL_law_128 dL_law_129 dL_law_130 ?_
  refine zl_read (i := 5 * t) (j := 4) (z := 4) C hxs hbl (zl_nA hbl) (by omega) hL (by decide) (ja := 4) (jb := 0) rfl rfl dL_law_131 dL_law_132 dL_law_134 dL_law_135 dL_law_136 ?_
  refine zn_kVi (tys1 := tysM cI cZ) (N := 31) (ad := am) (wf := wM cI cZ am) (σ := τ) (q0 := 0) (wl := []) (wr := zs_wl 88 ad (wC cI cN cW ad (fn_X3_start σ (xs (5 * t + 1)) (xs (5 * t + 2)) (xs (5 * t + 3)) (xs (5 * t + 4))).1) ++ [(o, .inl (cL, 1, .inr (.inl f)))]) (As := [.int (xs (5 * t + 1)), .int (xs (5 * t + 2)), .int (xs (5 * t + 3)), .int (xs (5 * t + 4))]) (rest := [.int (fn_X3_start σ (xs (5 * t + 1)) (xs (5 * t + 2)) (xs (5 * t + 3)) (xs (5 * t + 4))).2]) C zw_tbl pk_X4_start zl_L_30 (m_X4_start hJm 0 τ (xs (5 * t + 1)) (xs (5 * t + 2)) (xs (5 * t + 3)) (xs (5 * t + 4)) a4) (by decide) hJm (fun h => h.sub [0, 3] rfl) zm_recv rfl rfl rfl (Nat.le_of_ble_eq_true rfl) dL_law_137 ⟨by show 120 + t ≤ 603523; omega, by show 1925 + 6 * t ≤ 7285534; omega⟩ rfl ?_
  refine zn_icmp_eq (tgt := 449) C dL_law_140 (by decide) (fun _ => ?_) (fun q => absurd a1 q)
  refine zn_widen (k' := 120 + (t + 1)) (n' := 1925 + 6 * (t + 1)) (by omega) (by omega) ?_
  exact kk _ _ f a2 (zr_Imono (by omega) a3)
set_option maxRecDepth 20000 in
theorem zL_c1 (C : zn_C p s m #[Value.ref b] meth c cL_law 7 lw_tbl RL D vwCl (tysA cI cN cW cZ cL) (fun q : Nat => s.heap.size ≤ q)) (hl0 : l.stackTraces = false) (hX : zx_P (fun q : Nat => s.heap.size ≤ q) s) (hxs : va_X b L xs s s.heap) (hbl : b < s.heap.size) (hJ : zs_J 88 ad) (hJm : zs_J 31 am) (hL : L ≤ 2560) (ht : 5 * t + 5 ≤ L) (hE : zr_E σ τ) (hI : zr_I (1000 * t) τ)
    (kk : ∀ (σ' τ' : zs_T) (f' : Nat → Int64), zr_E σ' τ' → zr_I (1000 * (t + 1)) τ' → zn_Z p l e room_1 s m #[Value.ref b] below meth c D vwCl (fun q : Nat => s.heap.size ≤ q) 7 Q (zL_W cI cN cW cZ cL ad am o σ' τ' f') (120 + (t + 1)) (1925 + 6 * (t + 1)) 449 [(4, .int (nI (5 * t))), (3, .ref o), (2, .ref (am 0)), (1, .ref (ad 0)), (0, .ref b)] []) : zn_Z p l e room_1 s m #[Value.ref b] below meth c D vwCl (fun q : Nat => s.heap.size ≤ q) 7 Q (zL_W cI cN cW cZ cL ad am o σ τ f) (120 + t) (1925 + 6 * t) 145 [(4, .int (nI (5 * t))), (3, .ref o), (2, .ref (am 0)), (1, .ref (ad 0)), (0, .ref b)] [] := by
  obtain ⟨a1, a2, a3, a4, a5⟩ := zf_step hE hI (by omega) (xs (5 * t + 1))
  refine zn_aload_n C dL_law_145 rfl (j := 3) rfl ?_
  refine zl_read (i := 5 * t) (j := 1) (z := 1) C hxs hbl (zl_nA hbl) (by omega) hL (by decide) (ja := 4) (jb := 0) rfl rfl dL_law_146 dL_law_147 dL_law_149 dL_law_150 dL_law_151 ?_
  refine zn_kVi (tys1 := tysC cI cN cW) (N := 88) (ad := ad) (wf := wC cI cN cW ad) (σ := σ) (q0 := 0) (wl := zs_wl 31 am (wM cI cZ am τ)) (wr := [(o, .inl (cL, 1, .inr (.inl f)))]) (As := [.int (xs (5 * t + 1))]) (rest := []) C zw_tbl pk_X3_step zl_L_31 (m_X3_step hJ 0 σ (xs (5 * t + 1)) a4) (by decide) hJ (fun h => h.sub [0, 1, 2] rfl) zc_recvS rfl rfl rfl (Nat.le_of_ble_eq_true rfl) dL_law_152 ⟨by show 120 + t ≤ 603523; omega, by show 1925 + 6 * t ≤ 7285534; omega⟩ rfl ?_
  refine zn_aload_n C dL_law_155 rfl (j := 2) rfl ?_
  refine zl_read (i := 5 * t) (j := 1) (z := 1) C hxs hbl (zl_nA hbl) (by omega) hL (by decide) (ja := 4) (jb := 0) rfl rfl dL_law_156 dL_law_157 dL_law_159 dL_law_160 dL_law_161 ?_
  refine zn_kVi (tys1 := tysM cI cZ) (N := 31) (ad := am) (wf := wM cI cZ am) (σ := τ) (q0 := 0) (wl := []) (wr := zs_wl 88 ad (wC cI cN cW ad (fn_X3_step σ (xs (5 * t + 1))).1) ++ [(o, .inl (cL, 1, .inr (.inl f)))]) (As := [.int (xs (5 * t + 1))]) (rest := [.int (fn_X3_step σ (xs (5 * t + 1))).2]) C zw_tbl pk_X4_step zl_L_34 (m_X4_step hJm 0 τ (xs (5 * t + 1)) a5) (by decide) hJm (fun h => h.sub [0, 3] rfl) zm_recv rfl rfl rfl (Nat.le_of_ble_eq_true rfl) dL_law_162 ⟨by show 120 + t ≤ 603523; omega, by show 1925 + 6 * t ≤ 7285534; omega⟩ rfl ?_
  refine zn_icmp_eq (tgt := 449) C dL_law_165 (by decide) (fun _ => ?_) (fun q => absurd a1 q)
  refine zn_widen (k' := 120 + (t + 1)) (n' := 1925 + 6 * (t + 1)) (by omega) (by omega) ?_
  exact kk _ _ f a2 (zr_Imono (by omega) a3)
set_option maxRecDepth 20000 in
theorem zL_c2 (C : zn_C p s m #[Value.ref b] meth c cL_law 7 lw_tbl RL D vwCl (tysA cI cN cW cZ cL) (fun q : Nat => s.heap.size ≤ q)) (hl0 : l.stackTraces = false) (hX : zx_P (fun q : Nat => s.heap.size ≤ q) s) (hxs : va_X b L xs s s.heap) (hbl : b < s.heap.size) (hJ : zs_J 88 ad) (hJm : zs_J 31 am) (hL : L ≤ 2560) (ht : 5 * t + 5 ≤ L) (hE : zr_E σ τ) (hI : zr_I (1000 * t) τ)
    (kk : ∀ (σ' τ' : zs_T) (f' : Nat → Int64), zr_E σ' τ' → zr_I (1000 * (t + 1)) τ' → zn_Z p l e room_1 s m #[Value.ref b] below meth c D vwCl (fun q : Nat => s.heap.size ≤ q) 7 Q (zL_W cI cN cW cZ cL ad am o σ' τ' f') (120 + (t + 1)) (1925 + 6 * (t + 1)) 449 [(4, .int (nI (5 * t))), (3, .ref o), (2, .ref (am 0)), (1, .ref (ad 0)), (0, .ref b)] []) : zn_Z p l e room_1 s m #[Value.ref b] below meth c D vwCl (fun q : Nat => s.heap.size ≤ q) 7 Q (zL_W cI cN cW cZ cL ad am o σ τ f) (120 + t) (1925 + 6 * t) 170 [(4, .int (nI (5 * t))), (3, .ref o), (2, .ref (am 0)), (1, .ref (ad 0)), (0, .ref b)] [] := by
  obtain ⟨a1, a2, a3, a4, a5⟩ := zf_run hE hI (by omega) (xs (5 * t + 1)) (xs (5 * t + 2))
  refine zn_aload_n C dL_law_170 rfl (j := 3) rfl ?_
  refine zl_read (i := 5 * t) (j := 1) (z := 1) C hxs hbl (zl_nA hbl) (by omega) hL (by decide) (ja := 4) (jb := 0) rfl rfl dL_law_171 dL_law_172 dL_law_174 dL_law_175 dL_law_176 ?_
  refine zl_read (i := 5 * t) (j := 2) (z := 2) C hxs hbl (zl_nA hbl) (by omega) hL (by decide) (ja := 4) (jb := 0) rfl rfl dL_law_177 dL_law_178 dL_law_180 dL_law_181 dL_law_182 ?_
  refine zn_kVi (tys1 := tysC cI cN cW) (N := 88) (ad := ad) (wf := wC cI cN cW ad) (σ := σ) (q0 := 0) (wl := zs_wl 31 am (wM cI cZ am τ)) (wr := [(o, .inl (cL, 1, .inr (.inl f)))]) (As := [.int (xs (5 * t + 1)), .int (xs (5 * t + 2))]) (rest := []) C zw_tbl pk_X3_run zl_L_35 (m_X3_run hJ 0 σ (xs (5 * t + 1)) (xs (5 * t + 2)) a4) (by decide) hJ (fun h => h.sub [0, 1, 2] rfl) zc_recvS rfl rfl rfl (Nat.le_of_ble_eq_true rfl) dL_law_183 ⟨by show 120 + t ≤ 603523; omega, by show 1925 + 6 * t ≤ 7285534; omega⟩ rfl ?_
  refine zn_aload_n C dL_law_186 rfl (j := 2) rfl ?_
  refine zl_read (i := 5 * t) (j := 1) (z := 1) C hxs hbl (zl_nA hbl) (by omega) hL (by decide) (ja := 4) (jb := 0) rfl rfl dL_law_187 dL_law_188 dL_law_190 dL_law_191 dL_law_192 ?_
  refine zl_read (i := 5 * t) (j := 2) (z := 2) C hxs hbl (zl_nA hbl) (by omega) hL (by decide) (ja := 4) (jb := 0) rfl rfl dL_law_193 dL_law_194 dL_law_196 dL_law_197 dL_law_198 ?_
  refine zn_kVi (tys1 := tysM cI cZ) (N := 31) (ad := am) (wf := wM cI cZ am) (σ := τ) (q0 := 0) (wl := []) (wr := zs_wl 88 ad (wC cI cN cW ad (fn_X3_run σ (xs (5 * t + 1)) (xs (5 * t + 2))).1) ++ [(o, .inl (cL, 1, .inr (.inl f)))]) (As := [.int (xs (5 * t + 1)), .int (xs (5 * t + 2))]) (rest := [.int (fn_X3_run σ (xs (5 * t + 1)) (xs (5 * t + 2))).2]) C zw_tbl pk_X4_run zl_L_38 (m_X4_run hJm 0 τ (xs (5 * t + 1)) (xs (5 * t + 2)) a5) (by decide) hJm (fun h => h.sub [0, 3] rfl) zm_recv rfl rfl rfl (Nat.le_of_ble_eq_true rfl) dL_law_199 ⟨by show 120 + t ≤ 603523; omega, by show 1925 + 6 * t ≤ 7285534; omega⟩ rfl ?_
  refine zn_icmp_eq (tgt := 449) C dL_law_202 (by decide) (fun _ => ?_) (fun q => absurd a1 q)
  refine zn_widen (k' := 120 + (t + 1)) (n' := 1925 + 6 * (t + 1)) (by omega) (by omega) ?_
  exact kk _ _ f a2 (zr_Imono (by omega) a3)
set_option maxRecDepth 20000 in
theorem zL_c6 (C : zn_C p s m #[Value.ref b] meth c cL_law 7 lw_tbl RL D vwCl (tysA cI cN cW cZ cL) (fun q : Nat => s.heap.size ≤ q)) (hl0 : l.stackTraces = false) (hX : zx_P (fun q : Nat => s.heap.size ≤ q) s) (hxs : va_X b L xs s s.heap) (hbl : b < s.heap.size) (hJ : zs_J 88 ad) (hJm : zs_J 31 am) (hL : L ≤ 2560) (ht : 5 * t + 5 ≤ L) (hE : zr_E σ τ) (hI : zr_I (1000 * t) τ)
    (kk : ∀ (σ' τ' : zs_T) (f' : Nat → Int64), zr_E σ' τ' → zr_I (1000 * (t + 1)) τ' → zn_Z p l e room_1 s m #[Value.ref b] below meth c D vwCl (fun q : Nat => s.heap.size ≤ q) 7 Q (zL_W cI cN cW cZ cL ad am o σ' τ' f') (120 + (t + 1)) (1925 + 6 * (t + 1)) 449 [(4, .int (nI (5 * t))), (3, .ref o), (2, .ref (am 0)), (1, .ref (ad 0)), (0, .ref b)] []) : zn_Z p l e room_1 s m #[Value.ref b] below meth c D vwCl (fun q : Nat => s.heap.size ≤ q) 7 Q (zL_W cI cN cW cZ cL ad am o σ τ f) (120 + t) (1925 + 6 * t) 399 [(4, .int (nI (5 * t))), (3, .ref o), (2, .ref (am 0)), (1, .ref (ad 0)), (0, .ref b)] [] := by
  obtain ⟨a1, a2, a3, a4⟩ := zf_bucket hE hI (xs (5 * t + 1))
  refine zn_aload_n C dL_law_399 rfl (j := 3) rfl ?_
  refine zl_read (i := 5 * t) (j := 1) (z := 1) C hxs hbl (zl_nA hbl) (by omega) hL (by decide) (ja := 4) (jb := 0) rfl rfl dL_law_400 dL_law_401 dL_law_403 dL_law_404 dL_law_405 ?_
  refine zn_kVi (tys1 := tysC cI cN cW) (N := 88) (ad := ad) (wf := wC cI cN cW ad) (σ := σ) (q0 := 0) (wl := zs_wl 31 am (wM cI cZ am τ)) (wr := [(o, .inl (cL, 1, .inr (.inl f)))]) (As := [.int (xs (5 * t + 1))]) (rest := []) C zw_tbl pk_X3_bucket zl_L_56 (m_X3_bucket hJ 0 σ (xs (5 * t + 1))) (by decide) hJ (fun h => h.sub [0, 1, 2] rfl) zc_recvS rfl rfl rfl (Nat.le_of_ble_eq_true rfl) dL_law_406 ⟨by show 120 + t ≤ 603523; omega, by show 1925 + 6 * t ≤ 7285534; omega⟩ rfl ?_
  refine zn_aload_n C dL_law_409 rfl (j := 2) rfl ?_
  refine zl_read (i := 5 * t) (j := 1) (z := 1) C hxs hbl (zl_nA hbl) (by omega) hL (by decide) (ja := 4) (jb := 0) rfl rfl dL_law_410 dL_law_411 dL_law_413 dL_law_414 dL_law_415 ?_
  refine zn_kVi (tys1 := tysM cI cZ) (N := 31) (ad := am) (wf := wM cI cZ am) (σ := τ) (q0 := 0) (wl := []) (wr := zs_wl 88 ad (wC cI cN cW ad σ) ++ [(o, .inl (cL, 1, .inr (.inl f)))]) (As := [.int (xs (5 * t + 1))]) (rest := [.int (fr_X3_bucket σ (xs (5 * t + 1)))]) C zw_tbl pk_X4_bucket zl_L_59 (m_X4_bucket hJm 0 τ (xs (5 * t + 1)) a4) (by decide) hJm (fun h => h.sub [0, 3] rfl) zm_recv rfl rfl rfl (Nat.le_of_ble_eq_true rfl) dL_law_416 ⟨by show 120 + t ≤ 603523; omega, by show 1925 + 6 * t ≤ 7285534; omega⟩ rfl ?_
  refine zn_icmp_eq (tgt := 449) C dL_law_419 (by decide) (fun _ => ?_) (fun q => absurd a1 q)
  refine zn_widen (k' := 120 + (t + 1)) (n' := 1925 + 6 * (t + 1)) (by omega) (by omega) ?_
  exact kk _ _ f a2 (zr_Imono (by omega) a3)
set_option maxRecDepth 20000 in
theorem zL_c7 (C : zn_C p s m #[Value.ref b] meth c cL_law 7 lw_tbl RL D vwCl (tysA cI cN cW cZ cL) (fun q : Nat => s.heap.size ≤ q)) (hl0 : l.stackTraces = false) (hX : zx_P (fun q : Nat => s.heap.size ≤ q) s) (hxs : va_X b L xs s s.heap) (hbl : b < s.heap.size) (hJ : zs_J 88 ad) (hJm : zs_J 31 am) (hL : L ≤ 2560) (ht : 5 * t + 5 ≤ L) (hE : zr_E σ τ) (hI : zr_I (1000 * t) τ)
    (kk : ∀ (σ' τ' : zs_T) (f' : Nat → Int64), zr_E σ' τ' → zr_I (1000 * (t + 1)) τ' → zn_Z p l e room_1 s m #[Value.ref b] below meth c D vwCl (fun q : Nat => s.heap.size ≤ q) 7 Q (zL_W cI cN cW cZ cL ad am o σ' τ' f') (120 + (t + 1)) (1925 + 6 * (t + 1)) 449 [(4, .int (nI (5 * t))), (3, .ref o), (2, .ref (am 0)), (1, .ref (ad 0)), (0, .ref b)] []) : zn_Z p l e room_1 s m #[Value.ref b] below meth c D vwCl (fun q : Nat => s.heap.size ≤ q) 7 Q (zL_W cI cN cW cZ cL ad am o σ τ f) (120 + t) (1925 + 6 * t) 424 [(4, .int (nI (5 * t))), (3, .ref o), (2, .ref (am 0)), (1, .ref (ad 0)), (0, .ref b)] [] := by
  obtain ⟨a1, a2, a3, a4, a5⟩ := zf_total hE hI (xs (5 * t + 1))
  refine zn_aload_n C dL_law_424 rfl (j := 3) rfl ?_
  refine zl_read (i := 5 * t) (j := 1) (z := 1) C hxs hbl (zl_nA hbl) (by omega) hL (by decide) (ja := 4) (jb := 0) rfl rfl dL_law_425 dL_law_426 dL_law_428 dL_law_429 dL_law_430 ?_
  refine zn_kVi (tys1 := tysC cI cN cW) (N := 88) (ad := ad) (wf := wC cI cN cW ad) (σ := σ) (q0 := 0) (wl := zs_wl 31 am (wM cI cZ am τ)) (wr := [(o, .inl (cL, 1, .inr (.inl f)))]) (As := [.int (xs (5 * t + 1))]) (rest := []) C zw_tbl pk_X3_total zl_L_60 (m_X3_total hJ 0 σ (xs (5 * t + 1)) a4) (by decide) hJ (fun h => h.sub [0, 1, 2] rfl) zc_recvS rfl rfl rfl (Nat.le_of_ble_eq_true rfl) dL_law_431 ⟨by show 120 + t ≤ 603523; omega, by show 1925 + 6 * t ≤ 7285534; omega⟩ rfl ?_
  refine zn_aload_n C dL_law_434 rfl (j := 2) rfl ?_
  refine zl_read (i := 5 * t) (j := 1) (z := 1) C hxs hbl (zl_nA hbl) (by omega) hL (by decide) (ja := 4) (jb := 0) rfl rfl dL_law_435 dL_law_436 dL_law_438 dL_law_439 dL_law_440 ?_
  refine zn_kVi (tys1 := tysM cI cZ) (N := 31) (ad := am) (wf := wM cI cZ am) (σ := τ) (q0 := 0) (wl := []) (wr := zs_wl 88 ad (wC cI cN cW ad σ) ++ [(o, .inl (cL, 1, .inr (.inl f)))]) (As := [.int (xs (5 * t + 1))]) (rest := [.int (fr_X3_total σ (xs (5 * t + 1)))]) C zw_tbl pk_X4_total zl_L_63 (m_X4_total hJm 0 τ (xs (5 * t + 1)) a5) (by decide) hJm (fun h => h.sub [0, 3] rfl) zm_recv rfl rfl rfl (Nat.le_of_ble_eq_true rfl) dL_law_441 ⟨by show 120 + t ≤ 603523; omega, by show 1925 + 6 * t ≤ 7285534; omega⟩ rfl ?_
  refine zn_icmp_eq (tgt := 449) C dL_law_444 (by decide) (fun _ => ?_) (fun q => absurd a1 q)
  refine zn_widen (k' := 120 + (t + 1)) (n' := 1925 + 6 * (t + 1)) (by omega) (by omega) ?_
  exact kk _ _ f a2 (zr_Imono (by omega) a3)
theorem zl_out (σ τ : zs_T) (f : Nat → Int64) : (zL_W cI cN cW cZ cL ad am o σ τ f)[119]? = some (o, .inl (cL, 1, .inr (.inl f))) := by
  have h1 : (zs_wl 31 am (wM cI cZ am τ)).length = 31 := zs_wl_len
  have h2 : (zs_wl 88 ad (wC cI cN cW ad σ)).length = 88 := zs_wl_len
  unfold zL_W
  rw [List.getElem?_append_right (by omega), h1]
  exact zn_endG h2
set_option maxRecDepth 20000 in
theorem zL_c3 (C : zn_C p s m #[Value.ref b] meth c cL_law 7 lw_tbl RL D vwCl (tysA cI cN cW cZ cL) (fun q : Nat => s.heap.size ≤ q)) (hl0 : l.stackTraces = false) (hX : zx_P (fun q : Nat => s.heap.size ≤ q) s) (hxs : va_X b L xs s s.heap) (hbl : b < s.heap.size) (hJ : zs_J 88 ad) (hJm : zs_J 31 am) (hL : L ≤ 2560) (ht : 5 * t + 5 ≤ L) (hE : zr_E σ τ) (hI : zr_I (1000 * t) τ)
    (kk : ∀ (σ' τ' : zs_T) (f' : Nat → Int64), zr_E σ' τ' → zr_I (1000 * (t + 1)) τ' → zn_Z p l e room_1 s m #[Value.ref b] below meth c D vwCl (fun q : Nat => s.heap.size ≤ q) 7 Q (zL_W cI cN cW cZ cL ad am o σ' τ' f') (120 + (t + 1)) (1925 + 6 * (t + 1)) 449 [(4, .int (nI (5 * t))), (3, .ref o), (2, .ref (am 0)), (1, .ref (ad 0)), (0, .ref b)] []) : zn_Z p l e room_1 s m #[Value.ref b] below meth c D vwCl (fun q : Nat => s.heap.size ≤ q) 7 Q (zL_W cI cN cW cZ cL ad am o σ τ f) (120 + t) (1925 + 6 * t) 207 [(4, .int (nI (5 * t))), (3, .ref o), (2, .ref (am 0)), (1, .ref (ad 0)), (0, .ref b)] [] := by
  obtain ⟨a1, a2, a3, a4⟩ := zf_result hE hI (xs (5 * t + 1))
  refine zn_aload_n C dL_law_207 rfl (j := 3) rfl ?_
  refine zl_read (i := 5 * t) (j := 1) (z := 1) C hxs hbl (zl_nA hbl) (by omega) hL (by decide) (ja := 4) (jb := 0) rfl rfl dL_law_208 dL_law_209 dL_law_211 dL_law_212 dL_law_213 ?_
  refine zn_aload_n C dL_law_214 rfl (j := 1) rfl ?_
  rcases a4 with ⟨b1, b2⟩ | ⟨b1, b2, b3⟩
  · refine zn_hcall (i0 := 3) (tys1 := tysA cI cN cW cZ cL) (y := yL_result) (maxL := 4) (bytes := cL_result) (hh := [(0, 9, 12, 13)]) (wl := zs_wl 31 am (wM cI cZ am τ)) (w0 := zs_wl 88 ad (wC cI cN cW ad σ) ++ [(o, .inl (cL, 1, .inr (.inl f)))]) (As := [.ref (ad 0), .int (xs (5 * t + 1)), .ref o]) (rest := []) C zw_tbl (h_resultT hl0 hJ σ (xs (5 * t + 1)) o f b1) zl_Lk_result zl_Ln zl_L_39 zl_Ls_result (by decide +kernel) (by decide) hX (fun h => h) rfl rfl (Nat.le_of_ble_eq_true rfl) dL_law_215 ⟨by show 120 + t + 1 ≤ 603523; omega, by show 1925 + 6 * t + 6 ≤ 7285534; omega⟩ rfl ?_
    rintro _ _ ⟨rfl, rfl⟩
    refine zn_istore (lv' := [(5, .int 1), (4, .int (nI (5 * t))), (3, .ref o), (2, .ref (am 0)), (1, .ref (ad 0)), (0, .ref b)]) C dL_law_218 (by decide) rfl ?_
    refine zn_aload_n C dL_law_220 rfl (j := 3) rfl ?_
    refine zl_read (i := 5 * t) (j := 1) (z := 1) C hxs hbl (zl_nA hbl) (by omega) hL (by decide) (ja := 5) (jb := 1) rfl rfl dL_law_221 dL_law_222 dL_law_224 dL_law_225 dL_law_226 ?_
    refine zn_kVi (tys1 := tysM cI cZ) (N := 31) (ad := am) (wf := wM cI cZ am) (σ := τ) (q0 := 0) (wl := []) (wr := zs_wl 88 ad (wC cI cN cW ad σ) ++ [(o, .inl (cL, 1, .inr (.inl f)))]) (As := [.int (xs (5 * t + 1))]) (rest := []) C zw_tbl pk_X4_result zl_L_44 (m_X4_result hJm 0 τ (xs (5 * t + 1)) a3) (by decide) hJm (fun h => h.sub [0, 3] rfl) zm_recv rfl rfl rfl (Nat.le_of_ble_eq_true rfl) dL_law_227 ⟨by show 120 + t + 1 ≤ 603523; omega, by show 1925 + 6 * t + 6 ≤ 7285534; omega⟩ rfl ?_
    refine zn_istore (lv' := [(6, .int (fn_X4_result τ (xs (5 * t + 1))).2), (5, .int 1), (4, .int (nI (5 * t))), (3, .ref o), (2, .ref (am 0)), (1, .ref (ad 0)), (0, .ref b)]) C dL_law_230 (by decide) rfl ?_
    refine zn_aload_n C dL_law_232 rfl (j := 4) rfl ?_
    refine zn_kVi (tys1 := tysM cI cZ) (N := 31) (ad := am) (wf := wM cI cZ am) (σ := (fn_X4_result τ (xs (5 * t + 1))).1) (q0 := 0) (wl := []) (wr := zs_wl 88 ad (wC cI cN cW ad σ) ++ [(o, .inl (cL, 1, .inr (.inl f)))]) (As := []) (rest := []) C zw_tbl pk_X4_thrown zl_L_45 (m_X4_thrown hJm 0 (fn_X4_result τ (xs (5 * t + 1))).1) (by decide) hJm (fun h => h.sub [0, 3] rfl) zm_recv rfl rfl rfl (Nat.le_of_ble_eq_true rfl) dL_law_233 ⟨by show 120 + t + 1 ≤ 603523; omega, by show 1925 + 6 * t + 6 ≤ 7285534; omega⟩ rfl ?_
    refine zn_iload C dL_law_236 (j := 1) rfl ?_
    refine zn_icmp_eq (tgt := 243) C dL_law_238 (by decide) (fun _ => ?_) (fun q => absurd b2 q)
    refine zn_iload C dL_law_243 (j := 1) rfl ?_
    refine zn_if_ne (tgt := 260) C dL_law_245 (by decide) (fun _ => ?_) (fun q => absurd q (by decide))
    refine zn_goto (tgt := 449) C dL_law_260 (by decide) ?_
    refine zn_sub [2, 3, 4, 5, 6] rfl ?_
    refine zn_widen (k' := 120 + (t + 1)) (n' := 1925 + 6 * (t + 1)) (by omega) (by omega) ?_
    exact kk _ _ f a1 (zr_Imono (by omega) a2)
  · refine zn_hcall (i0 := 3) (tys1 := tysA cI cN cW cZ cL) (y := yL_result) (maxL := 4) (bytes := cL_result) (hh := [(0, 9, 12, 13)]) (wl := zs_wl 31 am (wM cI cZ am τ)) (w0 := zs_wl 88 ad (wC cI cN cW ad σ) ++ [(o, .inl (cL, 1, .inr (.inl f)))]) (As := [.ref (ad 0), .int (xs (5 * t + 1)), .ref o]) (rest := []) C zw_tbl (h_result hJ σ (xs (5 * t + 1)) o f b1) zl_Lk_result zl_Ln zl_L_39 zl_Ls_result (by decide +kernel) (by decide) hX (fun h => h) rfl rfl (Nat.le_of_ble_eq_true rfl) dL_law_215 ⟨by show 120 + t + 1 ≤ 603523; omega, by show 1925 + 6 * t + 6 ≤ 7285534; omega⟩ rfl ?_
    rintro _ _ ⟨rfl, rfl⟩
    refine zn_istore (lv' := [(5, .int 0), (4, .int (nI (5 * t))), (3, .ref o), (2, .ref (am 0)), (1, .ref (ad 0)), (0, .ref b)]) C dL_law_218 (by decide) rfl ?_
    refine zn_aload_n C dL_law_220 rfl (j := 3) rfl ?_
    refine zl_read (i := 5 * t) (j := 1) (z := 1) C hxs hbl (zl_nA hbl) (by omega) hL (by decide) (ja := 5) (jb := 1) rfl rfl dL_law_221 dL_law_222 dL_law_224 dL_law_225 dL_law_226 ?_
    refine zn_kVi (tys1 := tysM cI cZ) (N := 31) (ad := am) (wf := wM cI cZ am) (σ := τ) (q0 := 0) (wl := []) (wr := zs_wl 88 ad (wC cI cN cW ad σ) ++ [(o, .inl (cL, 1, .inr (.inl (vp_updL f 0 (fr_X3_result σ (xs (5 * t + 1))).toInt64))))]) (As := [.int (xs (5 * t + 1))]) (rest := []) C zw_tbl pk_X4_result zl_L_44 (m_X4_result hJm 0 τ (xs (5 * t + 1)) a3) (by decide) hJm (fun h => h.sub [0, 3] rfl) zm_recv rfl rfl rfl (Nat.le_of_ble_eq_true rfl) dL_law_227 ⟨by show 120 + t + 1 ≤ 603523; omega, by show 1925 + 6 * t + 6 ≤ 7285534; omega⟩ rfl ?_
    refine zn_istore (lv' := [(6, .int (fn_X4_result τ (xs (5 * t + 1))).2), (5, .int 0), (4, .int (nI (5 * t))), (3, .ref o), (2, .ref (am 0)), (1, .ref (ad 0)), (0, .ref b)]) C dL_law_230 (by decide) rfl ?_
    refine zn_aload_n C dL_law_232 rfl (j := 4) rfl ?_
    refine zn_kVi (tys1 := tysM cI cZ) (N := 31) (ad := am) (wf := wM cI cZ am) (σ := (fn_X4_result τ (xs (5 * t + 1))).1) (q0 := 0) (wl := []) (wr := zs_wl 88 ad (wC cI cN cW ad σ) ++ [(o, .inl (cL, 1, .inr (.inl (vp_updL f 0 (fr_X3_result σ (xs (5 * t + 1))).toInt64))))]) (As := []) (rest := []) C zw_tbl pk_X4_thrown zl_L_45 (m_X4_thrown hJm 0 (fn_X4_result τ (xs (5 * t + 1))).1) (by decide) hJm (fun h => h.sub [0, 3] rfl) zm_recv rfl rfl rfl (Nat.le_of_ble_eq_true rfl) dL_law_233 ⟨by show 120 + t + 1 ≤ 603523; omega, by show 1925 + 6 * t + 6 ≤ 7285534; omega⟩ rfl ?_
    refine zn_iload C dL_law_236 (j := 1) rfl ?_
    refine zn_icmp_eq (tgt := 243) C dL_law_238 (by decide) (fun _ => ?_) (fun q => absurd b2 q)
    refine zn_iload C dL_law_243 (j := 1) rfl ?_
    refine zn_if_ne (tgt := 260) C dL_law_245 (by decide) (fun q => absurd rfl q) (fun _ => ?_)
    refine zn_aload_n C dL_law_248 rfl (j := 3) rfl ?_
    refine zn_iconst (v := 0) C dL_law_249 rfl ?_
    refine zn_lald C 119 4 (zl_out _ _ _) rfl (by unfold vp_in; decide) dL_law_250 ?_
    refine zn_iload C dL_law_251 (j := 0) rfl ?_
    refine zn_i2l C dL_law_253 ?_
    refine zn_lcmp C dL_law_254 ?_
    refine zn_if_eq (tgt := 260) C dL_law_255 (by decide) (fun _ => ?_) (fun q => absurd (by rw [← b3]; exact lg_same _) q)
    refine zn_goto (tgt := 449) C dL_law_260 (by decide) ?_
    refine zn_sub [2, 3, 4, 5, 6] rfl ?_
    refine zn_widen (k' := 120 + (t + 1)) (n' := 1925 + 6 * (t + 1)) (by omega) (by omega) ?_
    exact kk _ _ (vp_updL f 0 (fr_X3_result σ (xs (5 * t + 1))).toInt64) a1 (zr_Imono (by omega) a2)
set_option maxRecDepth 20000 in
theorem zL_c4 (C : zn_C p s m #[Value.ref b] meth c cL_law 7 lw_tbl RL D vwCl (tysA cI cN cW cZ cL) (fun q : Nat => s.heap.size ≤ q)) (hl0 : l.stackTraces = false) (hX : zx_P (fun q : Nat => s.heap.size ≤ q) s) (hxs : va_X b L xs s s.heap) (hbl : b < s.heap.size) (hJ : zs_J 88 ad) (hJm : zs_J 31 am) (hL : L ≤ 2560) (ht : 5 * t + 5 ≤ L) (hE : zr_E σ τ) (hI : zr_I (1000 * t) τ)
    (kk : ∀ (σ' τ' : zs_T) (f' : Nat → Int64), zr_E σ' τ' → zr_I (1000 * (t + 1)) τ' → zn_Z p l e room_1 s m #[Value.ref b] below meth c D vwCl (fun q : Nat => s.heap.size ≤ q) 7 Q (zL_W cI cN cW cZ cL ad am o σ' τ' f') (120 + (t + 1)) (1925 + 6 * (t + 1)) 449 [(4, .int (nI (5 * t))), (3, .ref o), (2, .ref (am 0)), (1, .ref (ad 0)), (0, .ref b)] []) : zn_Z p l e room_1 s m #[Value.ref b] below meth c D vwCl (fun q : Nat => s.heap.size ≤ q) 7 Q (zL_W cI cN cW cZ cL ad am o σ τ f) (120 + t) (1925 + 6 * t) 263 [(4, .int (nI (5 * t))), (3, .ref o), (2, .ref (am 0)), (1, .ref (ad 0)), (0, .ref b)] [] := by
  obtain ⟨a1, a2, a3, a4⟩ := zf_process hE hI (xs (5 * t + 1)) (xs (5 * t + 2))
  refine zn_aload_n C dL_law_263 rfl (j := 3) rfl ?_
  refine zl_read (i := 5 * t) (j := 1) (z := 1) C hxs hbl (zl_nA hbl) (by omega) hL (by decide) (ja := 4) (jb := 0) rfl rfl dL_law_264 dL_law_265 dL_law_267 dL_law_268 dL_law_269 ?_
  refine zl_read (i := 5 * t) (j := 2) (z := 2) C hxs hbl (zl_nA hbl) (by omega) hL (by decide) (ja := 4) (jb := 0) rfl rfl dL_law_270 dL_law_271 dL_law_273 dL_law_274 dL_law_275 ?_
  refine zn_aload_n C dL_law_276 rfl (j := 1) rfl ?_
  rcases a4 with ⟨b1, b2⟩ | ⟨b1, b2, b3⟩
  · by_cases hg : fr_X3_isProcess σ (xs (5 * t + 1)) = 0
    · refine zn_hcall (i0 := 4) (tys1 := tysA cI cN cW cZ cL) (y := yL_process) (maxL := 5) (bytes := cL_process) (hh := [(0, 10, 13, 13)]) (wl := zs_wl 31 am (wM cI cZ am τ)) (w0 := zs_wl 88 ad (wC cI cN cW ad σ) ++ [(o, .inl (cL, 1, .inr (.inl f)))]) (As := [.ref (ad 0), .int (xs (5 * t + 1)), .int (xs (5 * t + 2)), .ref o]) (rest := []) C zw_tbl (h_processT hl0 hJ σ (xs (5 * t + 1)) (xs (5 * t + 2)) o f hg) zl_Lk_process zl_Ln zl_L_49 zl_Ls_process (by decide +kernel) (by decide) hX (fun h => h) rfl rfl (Nat.le_of_ble_eq_true rfl) dL_law_277 ⟨by show 120 + t + 1 ≤ 603523; omega, by show 1925 + 6 * t + 6 ≤ 7285534; omega⟩ rfl ?_
      rintro _ _ ⟨rfl, rfl⟩
      refine zn_istore (lv' := [(5, .int 1), (4, .int (nI (5 * t))), (3, .ref o), (2, .ref (am 0)), (1, .ref (ad 0)), (0, .ref b)]) C dL_law_280 (by decide) rfl ?_
      refine zn_aload_n C dL_law_282 rfl (j := 3) rfl ?_
      refine zl_read (i := 5 * t) (j := 1) (z := 1) C hxs hbl (zl_nA hbl) (by omega) hL (by decide) (ja := 5) (jb := 1) rfl rfl dL_law_283 dL_law_284 dL_law_286 dL_law_287 dL_law_288 ?_
      refine zl_read (i := 5 * t) (j := 2) (z := 2) C hxs hbl (zl_nA hbl) (by omega) hL (by decide) (ja := 5) (jb := 1) rfl rfl dL_law_289 dL_law_290 dL_law_292 dL_law_293 dL_law_294 ?_
      refine zn_kVi (tys1 := tysM cI cZ) (N := 31) (ad := am) (wf := wM cI cZ am) (σ := τ) (q0 := 0) (wl := []) (wr := zs_wl 88 ad (wC cI cN cW ad σ) ++ [(o, .inl (cL, 1, .inr (.inl f)))]) (As := [.int (xs (5 * t + 1)), .int (xs (5 * t + 2))]) (rest := []) C zw_tbl pk_X4_process zl_L_52 (m_X4_process hJm 0 τ (xs (5 * t + 1)) (xs (5 * t + 2)) a3) (by decide) hJm (fun h => h.sub [0, 3] rfl) zm_recv rfl rfl rfl (Nat.le_of_ble_eq_true rfl) dL_law_295 ⟨by show 120 + t + 1 ≤ 603523; omega, by show 1925 + 6 * t + 6 ≤ 7285534; omega⟩ rfl ?_
      refine zn_istore (lv' := [(6, .int (fn_X4_process τ (xs (5 * t + 1)) (xs (5 * t + 2))).2), (5, .int 1), (4, .int (nI (5 * t))), (3, .ref o), (2, .ref (am 0)), (1, .ref (ad 0)), (0, .ref b)]) C dL_law_298 (by decide) rfl ?_
      refine zn_aload_n C dL_law_300 rfl (j := 4) rfl ?_
      refine zn_kVi (tys1 := tysM cI cZ) (N := 31) (ad := am) (wf := wM cI cZ am) (σ := (fn_X4_process τ (xs (5 * t + 1)) (xs (5 * t + 2))).1) (q0 := 0) (wl := []) (wr := zs_wl 88 ad (wC cI cN cW ad σ) ++ [(o, .inl (cL, 1, .inr (.inl f)))]) (As := []) (rest := []) C zw_tbl pk_X4_thrown zl_L_45 (m_X4_thrown hJm 0 (fn_X4_process τ (xs (5 * t + 1)) (xs (5 * t + 2))).1) (by decide) hJm (fun h => h.sub [0, 3] rfl) zm_recv rfl rfl rfl (Nat.le_of_ble_eq_true rfl) dL_law_301 ⟨by show 120 + t + 1 ≤ 603523; omega, by show 1925 + 6 * t + 6 ≤ 7285534; omega⟩ rfl ?_
      refine zn_iload C dL_law_304 (j := 1) rfl ?_
      refine zn_icmp_eq (tgt := 311) C dL_law_306 (by decide) (fun _ => ?_) (fun q => absurd b2 q)
      refine zn_iload C dL_law_311 (j := 1) rfl ?_
      refine zn_if_ne (tgt := 328) C dL_law_313 (by decide) (fun _ => ?_) (fun q => absurd q (by decide))
      refine zn_goto (tgt := 449) C dL_law_328 (by decide) ?_
      refine zn_sub [2, 3, 4, 5, 6] rfl ?_
      refine zn_widen (k' := 120 + (t + 1)) (n' := 1925 + 6 * (t + 1)) (by omega) (by omega) ?_
      exact kk _ _ f a1 (zr_Imono (by omega) a2)
    · refine zn_hcall (i0 := 4) (tys1 := tysA cI cN cW cZ cL) (y := yL_process) (maxL := 5) (bytes := cL_process) (hh := [(0, 10, 13, 13)]) (wl := zs_wl 31 am (wM cI cZ am τ)) (w0 := zs_wl 88 ad (wC cI cN cW ad σ) ++ [(o, .inl (cL, 1, .inr (.inl f)))]) (As := [.ref (ad 0), .int (xs (5 * t + 1)), .int (xs (5 * t + 2)), .ref o]) (rest := []) C zw_tbl (h_processTB hl0 hJ σ (xs (5 * t + 1)) (xs (5 * t + 2)) o f hg (b1.resolve_left hg)) zl_Lk_process zl_Ln zl_L_49 zl_Ls_process (by decide +kernel) (by decide) hX (fun h => h) rfl rfl (Nat.le_of_ble_eq_true rfl) dL_law_277 ⟨by show 120 + t + 1 ≤ 603523; omega, by show 1925 + 6 * t + 6 ≤ 7285534; omega⟩ rfl ?_
      rintro _ _ ⟨rfl, rfl⟩
      refine zn_istore (lv' := [(5, .int 1), (4, .int (nI (5 * t))), (3, .ref o), (2, .ref (am 0)), (1, .ref (ad 0)), (0, .ref b)]) C dL_law_280 (by decide) rfl ?_
      refine zn_aload_n C dL_law_282 rfl (j := 3) rfl ?_
      refine zl_read (i := 5 * t) (j := 1) (z := 1) C hxs hbl (zl_nA hbl) (by omega) hL (by decide) (ja := 5) (jb := 1) rfl rfl dL_law_283 dL_law_284 dL_law_286 dL_law_287 dL_law_288 ?_
      refine zl_read (i := 5 * t) (j := 2) (z := 2) C hxs hbl (zl_nA hbl) (by omega) hL (by decide) (ja := 5) (jb := 1) rfl rfl dL_law_289 dL_law_290 dL_law_292 dL_law_293 dL_law_294 ?_
      refine zn_kVi (tys1 := tysM cI cZ) (N := 31) (ad := am) (wf := wM cI cZ am) (σ := τ) (q0 := 0) (wl := []) (wr := zs_wl 88 ad (wC cI cN cW ad σ) ++ [(o, .inl (cL, 1, .inr (.inl f)))]) (As := [.int (xs (5 * t + 1)), .int (xs (5 * t + 2))]) (rest := []) C zw_tbl pk_X4_process zl_L_52 (m_X4_process hJm 0 τ (xs (5 * t + 1)) (xs (5 * t + 2)) a3) (by decide) hJm (fun h => h.sub [0, 3] rfl) zm_recv rfl rfl rfl (Nat.le_of_ble_eq_true rfl) dL_law_295 ⟨by show 120 + t + 1 ≤ 603523; omega, by show 1925 + 6 * t + 6 ≤ 7285534; omega⟩ rfl ?_
      refine zn_istore (lv' := [(6, .int (fn_X4_process τ (xs (5 * t + 1)) (xs (5 * t + 2))).2), (5, .int 1), (4, .int (nI (5 * t))), (3, .ref o), (2, .ref (am 0)), (1, .ref (ad 0)), (0, .ref b)]) C dL_law_298 (by decide) rfl ?_
      refine zn_aload_n C dL_law_300 rfl (j := 4) rfl ?_
      refine zn_kVi (tys1 := tysM cI cZ) (N := 31) (ad := am) (wf := wM cI cZ am) (σ := (fn_X4_process τ (xs (5 * t + 1)) (xs (5 * t + 2))).1) (q0 := 0) (wl := []) (wr := zs_wl 88 ad (wC cI cN cW ad σ) ++ [(o, .inl (cL, 1, .inr (.inl f)))]) (As := []) (rest := []) C zw_tbl pk_X4_thrown zl_L_45 (m_X4_thrown hJm 0 (fn_X4_process τ (xs (5 * t + 1)) (xs (5 * t + 2))).1) (by decide) hJm (fun h => h.sub [0, 3] rfl) zm_recv rfl rfl rfl (Nat.le_of_ble_eq_true rfl) dL_law_301 ⟨by show 120 + t + 1 ≤ 603523; omega, by show 1925 + 6 * t + 6 ≤ 7285534; omega⟩ rfl ?_
      refine zn_iload C dL_law_304 (j := 1) rfl ?_
      refine zn_icmp_eq (tgt := 311) C dL_law_306 (by decide) (fun _ => ?_) (fun q => absurd b2 q)
      refine zn_iload C dL_law_311 (j := 1) rfl ?_
      refine zn_if_ne (tgt := 328) C dL_law_313 (by decide) (fun _ => ?_) (fun q => absurd q (by decide))
      refine zn_goto (tgt := 449) C dL_law_328 (by decide) ?_
      refine zn_sub [2, 3, 4, 5, 6] rfl ?_
      refine zn_widen (k' := 120 + (t + 1)) (n' := 1925 + 6 * (t + 1)) (by omega) (by omega) ?_
      exact kk _ _ f a1 (zr_Imono (by omega) a2)
  · refine zn_hcall (i0 := 4) (tys1 := tysA cI cN cW cZ cL) (y := yL_process) (maxL := 5) (bytes := cL_process) (hh := [(0, 10, 13, 13)]) (wl := zs_wl 31 am (wM cI cZ am τ)) (w0 := zs_wl 88 ad (wC cI cN cW ad σ) ++ [(o, .inl (cL, 1, .inr (.inl f)))]) (As := [.ref (ad 0), .int (xs (5 * t + 1)), .int (xs (5 * t + 2)), .ref o]) (rest := []) C zw_tbl (h_process hJ σ (xs (5 * t + 1)) (xs (5 * t + 2)) o f b1) zl_Lk_process zl_Ln zl_L_49 zl_Ls_process (by decide +kernel) (by decide) hX (fun h => h) rfl rfl (Nat.le_of_ble_eq_true rfl) dL_law_277 ⟨by show 120 + t + 1 ≤ 603523; omega, by show 1925 + 6 * t + 6 ≤ 7285534; omega⟩ rfl ?_
    rintro _ _ ⟨rfl, rfl⟩
    refine zn_istore (lv' := [(5, .int 0), (4, .int (nI (5 * t))), (3, .ref o), (2, .ref (am 0)), (1, .ref (ad 0)), (0, .ref b)]) C dL_law_280 (by decide) rfl ?_
    refine zn_aload_n C dL_law_282 rfl (j := 3) rfl ?_
    refine zl_read (i := 5 * t) (j := 1) (z := 1) C hxs hbl (zl_nA hbl) (by omega) hL (by decide) (ja := 5) (jb := 1) rfl rfl dL_law_283 dL_law_284 dL_law_286 dL_law_287 dL_law_288 ?_
    refine zl_read (i := 5 * t) (j := 2) (z := 2) C hxs hbl (zl_nA hbl) (by omega) hL (by decide) (ja := 5) (jb := 1) rfl rfl dL_law_289 dL_law_290 dL_law_292 dL_law_293 dL_law_294 ?_
    refine zn_kVi (tys1 := tysM cI cZ) (N := 31) (ad := am) (wf := wM cI cZ am) (σ := τ) (q0 := 0) (wl := []) (wr := zs_wl 88 ad (wC cI cN cW ad σ) ++ [(o, .inl (cL, 1, .inr (.inl (vp_updL f 0 (fr_X3_process σ (xs (5 * t + 1)) (xs (5 * t + 2))).toInt64))))]) (As := [.int (xs (5 * t + 1)), .int (xs (5 * t + 2))]) (rest := []) C zw_tbl pk_X4_process zl_L_52 (m_X4_process hJm 0 τ (xs (5 * t + 1)) (xs (5 * t + 2)) a3) (by decide) hJm (fun h => h.sub [0, 3] rfl) zm_recv rfl rfl rfl (Nat.le_of_ble_eq_true rfl) dL_law_295 ⟨by show 120 + t + 1 ≤ 603523; omega, by show 1925 + 6 * t + 6 ≤ 7285534; omega⟩ rfl ?_
    refine zn_istore (lv' := [(6, .int (fn_X4_process τ (xs (5 * t + 1)) (xs (5 * t + 2))).2), (5, .int 0), (4, .int (nI (5 * t))), (3, .ref o), (2, .ref (am 0)), (1, .ref (ad 0)), (0, .ref b)]) C dL_law_298 (by decide) rfl ?_
    refine zn_aload_n C dL_law_300 rfl (j := 4) rfl ?_
    refine zn_kVi (tys1 := tysM cI cZ) (N := 31) (ad := am) (wf := wM cI cZ am) (σ := (fn_X4_process τ (xs (5 * t + 1)) (xs (5 * t + 2))).1) (q0 := 0) (wl := []) (wr := zs_wl 88 ad (wC cI cN cW ad σ) ++ [(o, .inl (cL, 1, .inr (.inl (vp_updL f 0 (fr_X3_process σ (xs (5 * t + 1)) (xs (5 * t + 2))).toInt64))))]) (As := []) (rest := []) C zw_tbl pk_X4_thrown zl_L_45 (m_X4_thrown hJm 0 (fn_X4_process τ (xs (5 * t + 1)) (xs (5 * t + 2))).1) (by decide) hJm (fun h => h.sub [0, 3] rfl) zm_recv rfl rfl rfl (Nat.le_of_ble_eq_true rfl) dL_law_301 ⟨by show 120 + t + 1 ≤ 603523; omega, by show 1925 + 6 * t + 6 ≤ 7285534; omega⟩ rfl ?_
    refine zn_iload C dL_law_304 (j := 1) rfl ?_
    refine zn_icmp_eq (tgt := 311) C dL_law_306 (by decide) (fun _ => ?_) (fun q => absurd b2 q)
    refine zn_iload C dL_law_311 (j := 1) rfl ?_
    refine zn_if_ne (tgt := 328) C dL_law_313 (by decide) (fun q => absurd rfl q) (fun _ => ?_)
    refine zn_aload_n C dL_law_316 rfl (j := 3) rfl ?_
    refine zn_iconst (v := 0) C dL_law_317 rfl ?_
    refine zn_lald C 119 4 (zl_out _ _ _) rfl (by unfold vp_in; decide) dL_law_318 ?_
    refine zn_iload C dL_law_319 (j := 0) rfl ?_
    refine zn_i2l C dL_law_321 ?_
    refine zn_lcmp C dL_law_322 ?_
    refine zn_if_eq (tgt := 328) C dL_law_323 (by decide) (fun _ => ?_) (fun q => absurd (by rw [← b3]; exact lg_same _) q)
    refine zn_goto (tgt := 449) C dL_law_328 (by decide) ?_
    refine zn_sub [2, 3, 4, 5, 6] rfl ?_
    refine zn_widen (k' := 120 + (t + 1)) (n' := 1925 + 6 * (t + 1)) (by omega) (by omega) ?_
    exact kk _ _ (vp_updL f 0 (fr_X3_process σ (xs (5 * t + 1)) (xs (5 * t + 2))).toInt64) a1 (zr_Imono (by omega) a2)
set_option maxRecDepth 20000 in
theorem zL_c5 (C : zn_C p s m #[Value.ref b] meth c cL_law 7 lw_tbl RL D vwCl (tysA cI cN cW cZ cL) (fun q : Nat => s.heap.size ≤ q)) (hl0 : l.stackTraces = false) (hX : zx_P (fun q : Nat => s.heap.size ≤ q) s) (hxs : va_X b L xs s s.heap) (hbl : b < s.heap.size) (hJ : zs_J 88 ad) (hJm : zs_J 31 am) (hL : L ≤ 2560) (ht : 5 * t + 5 ≤ L) (hE : zr_E σ τ) (hI : zr_I (1000 * t) τ)
    (kk : ∀ (σ' τ' : zs_T) (f' : Nat → Int64), zr_E σ' τ' → zr_I (1000 * (t + 1)) τ' → zn_Z p l e room_1 s m #[Value.ref b] below meth c D vwCl (fun q : Nat => s.heap.size ≤ q) 7 Q (zL_W cI cN cW cZ cL ad am o σ' τ' f') (120 + (t + 1)) (1925 + 6 * (t + 1)) 449 [(4, .int (nI (5 * t))), (3, .ref o), (2, .ref (am 0)), (1, .ref (ad 0)), (0, .ref b)] []) : zn_Z p l e room_1 s m #[Value.ref b] below meth c D vwCl (fun q : Nat => s.heap.size ≤ q) 7 Q (zL_W cI cN cW cZ cL ad am o σ τ f) (120 + t) (1925 + 6 * t) 331 [(4, .int (nI (5 * t))), (3, .ref o), (2, .ref (am 0)), (1, .ref (ad 0)), (0, .ref b)] [] := by
  obtain ⟨a1, a2, a3, a4⟩ := zf_node hE hI (xs (5 * t + 1)) (xs (5 * t + 2))
  refine zn_aload_n C dL_law_331 rfl (j := 3) rfl ?_
  refine zl_read (i := 5 * t) (j := 1) (z := 1) C hxs hbl (zl_nA hbl) (by omega) hL (by decide) (ja := 4) (jb := 0) rfl rfl dL_law_332 dL_law_333 dL_law_335 dL_law_336 dL_law_337 ?_
  refine zl_read (i := 5 * t) (j := 2) (z := 2) C hxs hbl (zl_nA hbl) (by omega) hL (by decide) (ja := 4) (jb := 0) rfl rfl dL_law_338 dL_law_339 dL_law_341 dL_law_342 dL_law_343 ?_
  refine zn_aload_n C dL_law_344 rfl (j := 1) rfl ?_
  rcases a4 with ⟨b1, b2⟩ | ⟨b1, b2, b3⟩
  · by_cases hg : fr_X3_isNode σ (xs (5 * t + 1)) = 0
    · refine zn_hcall (i0 := 4) (tys1 := tysA cI cN cW cZ cL) (y := yL_node) (maxL := 5) (bytes := cL_node) (hh := [(0, 10, 13, 13)]) (wl := zs_wl 31 am (wM cI cZ am τ)) (w0 := zs_wl 88 ad (wC cI cN cW ad σ) ++ [(o, .inl (cL, 1, .inr (.inl f)))]) (As := [.ref (ad 0), .int (xs (5 * t + 1)), .int (xs (5 * t + 2)), .ref o]) (rest := []) C zw_tbl (h_nodeT hl0 hJ σ (xs (5 * t + 1)) (xs (5 * t + 2)) o f hg) zl_Lk_node zl_Ln zl_L_53 zl_Ls_node (by decide +kernel) (by decide) hX (fun h => h) rfl rfl (Nat.le_of_ble_eq_true rfl) dL_law_345 ⟨by show 120 + t + 1 ≤ 603523; omega, by show 1925 + 6 * t + 6 ≤ 7285534; omega⟩ rfl ?_
      rintro _ _ ⟨rfl, rfl⟩
      refine zn_istore (lv' := [(5, .int 1), (4, .int (nI (5 * t))), (3, .ref o), (2, .ref (am 0)), (1, .ref (ad 0)), (0, .ref b)]) C dL_law_348 (by decide) rfl ?_
      refine zn_aload_n C dL_law_350 rfl (j := 3) rfl ?_
      refine zl_read (i := 5 * t) (j := 1) (z := 1) C hxs hbl (zl_nA hbl) (by omega) hL (by decide) (ja := 5) (jb := 1) rfl rfl dL_law_351 dL_law_352 dL_law_354 dL_law_355 dL_law_356 ?_
      refine zl_read (i := 5 * t) (j := 2) (z := 2) C hxs hbl (zl_nA hbl) (by omega) hL (by decide) (ja := 5) (jb := 1) rfl rfl dL_law_357 dL_law_358 dL_law_360 dL_law_361 dL_law_362 ?_
      refine zn_kVi (tys1 := tysM cI cZ) (N := 31) (ad := am) (wf := wM cI cZ am) (σ := τ) (q0 := 0) (wl := []) (wr := zs_wl 88 ad (wC cI cN cW ad σ) ++ [(o, .inl (cL, 1, .inr (.inl f)))]) (As := [.int (xs (5 * t + 1)), .int (xs (5 * t + 2))]) (rest := []) C zw_tbl pk_X4_node zl_L_55 (m_X4_node hJm 0 τ (xs (5 * t + 1)) (xs (5 * t + 2)) a3) (by decide) hJm (fun h => h.sub [0, 3] rfl) zm_recv rfl rfl rfl (Nat.le_of_ble_eq_true rfl) dL_law_363 ⟨by show 120 + t + 1 ≤ 603523; omega, by show 1925 + 6 * t + 6 ≤ 7285534; omega⟩ rfl ?_
      refine zn_istore (lv' := [(6, .int (fn_X4_node τ (xs (5 * t + 1)) (xs (5 * t + 2))).2), (5, .int 1), (4, .int (nI (5 * t))), (3, .ref o), (2, .ref (am 0)), (1, .ref (ad 0)), (0, .ref b)]) C dL_law_366 (by decide) rfl ?_
      refine zn_aload_n C dL_law_368 rfl (j := 4) rfl ?_
      refine zn_kVi (tys1 := tysM cI cZ) (N := 31) (ad := am) (wf := wM cI cZ am) (σ := (fn_X4_node τ (xs (5 * t + 1)) (xs (5 * t + 2))).1) (q0 := 0) (wl := []) (wr := zs_wl 88 ad (wC cI cN cW ad σ) ++ [(o, .inl (cL, 1, .inr (.inl f)))]) (As := []) (rest := []) C zw_tbl pk_X4_thrown zl_L_45 (m_X4_thrown hJm 0 (fn_X4_node τ (xs (5 * t + 1)) (xs (5 * t + 2))).1) (by decide) hJm (fun h => h.sub [0, 3] rfl) zm_recv rfl rfl rfl (Nat.le_of_ble_eq_true rfl) dL_law_369 ⟨by show 120 + t + 1 ≤ 603523; omega, by show 1925 + 6 * t + 6 ≤ 7285534; omega⟩ rfl ?_
      refine zn_iload C dL_law_372 (j := 1) rfl ?_
      refine zn_icmp_eq (tgt := 379) C dL_law_374 (by decide) (fun _ => ?_) (fun q => absurd b2 q)
      refine zn_iload C dL_law_379 (j := 1) rfl ?_
      refine zn_if_ne (tgt := 396) C dL_law_381 (by decide) (fun _ => ?_) (fun q => absurd q (by decide))
      refine zn_goto (tgt := 449) C dL_law_396 (by decide) ?_
      refine zn_sub [2, 3, 4, 5, 6] rfl ?_
      refine zn_widen (k' := 120 + (t + 1)) (n' := 1925 + 6 * (t + 1)) (by omega) (by omega) ?_
      exact kk _ _ f a1 (zr_Imono (by omega) a2)
    · refine zn_hcall (i0 := 4) (tys1 := tysA cI cN cW cZ cL) (y := yL_node) (maxL := 5) (bytes := cL_node) (hh := [(0, 10, 13, 13)]) (wl := zs_wl 31 am (wM cI cZ am τ)) (w0 := zs_wl 88 ad (wC cI cN cW ad σ) ++ [(o, .inl (cL, 1, .inr (.inl f)))]) (As := [.ref (ad 0), .int (xs (5 * t + 1)), .int (xs (5 * t + 2)), .ref o]) (rest := []) C zw_tbl (h_nodeTB hl0 hJ σ (xs (5 * t + 1)) (xs (5 * t + 2)) o f hg (b1.resolve_left hg)) zl_Lk_node zl_Ln zl_L_53 zl_Ls_node (by decide +kernel) (by decide) hX (fun h => h) rfl rfl (Nat.le_of_ble_eq_true rfl) dL_law_345 ⟨by show 120 + t + 1 ≤ 603523; omega, by show 1925 + 6 * t + 6 ≤ 7285534; omega⟩ rfl ?_
      rintro _ _ ⟨rfl, rfl⟩
      refine zn_istore (lv' := [(5, .int 1), (4, .int (nI (5 * t))), (3, .ref o), (2, .ref (am 0)), (1, .ref (ad 0)), (0, .ref b)]) C dL_law_348 (by decide) rfl ?_
      refine zn_aload_n C dL_law_350 rfl (j := 3) rfl ?_
      refine zl_read (i := 5 * t) (j := 1) (z := 1) C hxs hbl (zl_nA hbl) (by omega) hL (by decide) (ja := 5) (jb := 1) rfl rfl dL_law_351 dL_law_352 dL_law_354 dL_law_355 dL_law_356 ?_
      refine zl_read (i := 5 * t) (j := 2) (z := 2) C hxs hbl (zl_nA hbl) (by omega) hL (by decide) (ja := 5) (jb := 1) rfl rfl dL_law_357 dL_law_358 dL_law_360 dL_law_361 dL_law_362 ?_
      refine zn_kVi (tys1 := tysM cI cZ) (N := 31) (ad := am) (wf := wM cI cZ am) (σ := τ) (q0 := 0) (wl := []) (wr := zs_wl 88 ad (wC cI cN cW ad σ) ++ [(o, .inl (cL, 1, .inr (.inl f)))]) (As := [.int (xs (5 * t + 1)), .int (xs (5 * t + 2))]) (rest := []) C zw_tbl pk_X4_node zl_L_55 (m_X4_node hJm 0 τ (xs (5 * t + 1)) (xs (5 * t + 2)) a3) (by decide) hJm (fun h => h.sub [0, 3] rfl) zm_recv rfl rfl rfl (Nat.le_of_ble_eq_true rfl) dL_law_363 ⟨by show 120 + t + 1 ≤ 603523; omega, by show 1925 + 6 * t + 6 ≤ 7285534; omega⟩ rfl ?_
      refine zn_istore (lv' := [(6, .int (fn_X4_node τ (xs (5 * t + 1)) (xs (5 * t + 2))).2), (5, .int 1), (4, .int (nI (5 * t))), (3, .ref o), (2, .ref (am 0)), (1, .ref (ad 0)), (0, .ref b)]) C dL_law_366 (by decide) rfl ?_
      refine zn_aload_n C dL_law_368 rfl (j := 4) rfl ?_
      refine zn_kVi (tys1 := tysM cI cZ) (N := 31) (ad := am) (wf := wM cI cZ am) (σ := (fn_X4_node τ (xs (5 * t + 1)) (xs (5 * t + 2))).1) (q0 := 0) (wl := []) (wr := zs_wl 88 ad (wC cI cN cW ad σ) ++ [(o, .inl (cL, 1, .inr (.inl f)))]) (As := []) (rest := []) C zw_tbl pk_X4_thrown zl_L_45 (m_X4_thrown hJm 0 (fn_X4_node τ (xs (5 * t + 1)) (xs (5 * t + 2))).1) (by decide) hJm (fun h => h.sub [0, 3] rfl) zm_recv rfl rfl rfl (Nat.le_of_ble_eq_true rfl) dL_law_369 ⟨by show 120 + t + 1 ≤ 603523; omega, by show 1925 + 6 * t + 6 ≤ 7285534; omega⟩ rfl ?_
      refine zn_iload C dL_law_372 (j := 1) rfl ?_
      refine zn_icmp_eq (tgt := 379) C dL_law_374 (by decide) (fun _ => ?_) (fun q => absurd b2 q)
      refine zn_iload C dL_law_379 (j := 1) rfl ?_
      refine zn_if_ne (tgt := 396) C dL_law_381 (by decide) (fun _ => ?_) (fun q => absurd q (by decide))
      refine zn_goto (tgt := 449) C dL_law_396 (by decide) ?_
      refine zn_sub [2, 3, 4, 5, 6] rfl ?_
      refine zn_widen (k' := 120 + (t + 1)) (n' := 1925 + 6 * (t + 1)) (by omega) (by omega) ?_
      exact kk _ _ f a1 (zr_Imono (by omega) a2)
  · refine zn_hcall (i0 := 4) (tys1 := tysA cI cN cW cZ cL) (y := yL_node) (maxL := 5) (bytes := cL_node) (hh := [(0, 10, 13, 13)]) (wl := zs_wl 31 am (wM cI cZ am τ)) (w0 := zs_wl 88 ad (wC cI cN cW ad σ) ++ [(o, .inl (cL, 1, .inr (.inl f)))]) (As := [.ref (ad 0), .int (xs (5 * t + 1)), .int (xs (5 * t + 2)), .ref o]) (rest := []) C zw_tbl (h_node hJ σ (xs (5 * t + 1)) (xs (5 * t + 2)) o f b1) zl_Lk_node zl_Ln zl_L_53 zl_Ls_node (by decide +kernel) (by decide) hX (fun h => h) rfl rfl (Nat.le_of_ble_eq_true rfl) dL_law_345 ⟨by show 120 + t + 1 ≤ 603523; omega, by show 1925 + 6 * t + 6 ≤ 7285534; omega⟩ rfl ?_
    rintro _ _ ⟨rfl, rfl⟩
    refine zn_istore (lv' := [(5, .int 0), (4, .int (nI (5 * t))), (3, .ref o), (2, .ref (am 0)), (1, .ref (ad 0)), (0, .ref b)]) C dL_law_348 (by decide) rfl ?_
    refine zn_aload_n C dL_law_350 rfl (j := 3) rfl ?_
    refine zl_read (i := 5 * t) (j := 1) (z := 1) C hxs hbl (zl_nA hbl) (by omega) hL (by decide) (ja := 5) (jb := 1) rfl rfl dL_law_351 dL_law_352 dL_law_354 dL_law_355 dL_law_356 ?_
    refine zl_read (i := 5 * t) (j := 2) (z := 2) C hxs hbl (zl_nA hbl) (by omega) hL (by decide) (ja := 5) (jb := 1) rfl rfl dL_law_357 dL_law_358 dL_law_360 dL_law_361 dL_law_362 ?_
    refine zn_kVi (tys1 := tysM cI cZ) (N := 31) (ad := am) (wf := wM cI cZ am) (σ := τ) (q0 := 0) (wl := []) (wr := zs_wl 88 ad (wC cI cN cW ad σ) ++ [(o, .inl (cL, 1, .inr (.inl (vp_updL f 0 (fr_X3_node σ (xs (5 * t + 1)) (xs (5 * t + 2))).toInt64))))]) (As := [.int (xs (5 * t + 1)), .int (xs (5 * t + 2))]) (rest := []) C zw_tbl pk_X4_node zl_L_55 (m_X4_node hJm 0 τ (xs (5 * t + 1)) (xs (5 * t + 2)) a3) (by decide) hJm (fun h => h.sub [0, 3] rfl) zm_recv rfl rfl rfl (Nat.le_of_ble_eq_true rfl) dL_law_363 ⟨by show 120 + t + 1 ≤ 603523; omega, by show 1925 + 6 * t + 6 ≤ 7285534; omega⟩ rfl ?_
    refine zn_istore (lv' := [(6, .int (fn_X4_node τ (xs (5 * t + 1)) (xs (5 * t + 2))).2), (5, .int 0), (4, .int (nI (5 * t))), (3, .ref o), (2, .ref (am 0)), (1, .ref (ad 0)), (0, .ref b)]) C dL_law_366 (by decide) rfl ?_
    refine zn_aload_n C dL_law_368 rfl (j := 4) rfl ?_
    refine zn_kVi (tys1 := tysM cI cZ) (N := 31) (ad := am) (wf := wM cI cZ am) (σ := (fn_X4_node τ (xs (5 * t + 1)) (xs (5 * t + 2))).1) (q0 := 0) (wl := []) (wr := zs_wl 88 ad (wC cI cN cW ad σ) ++ [(o, .inl (cL, 1, .inr (.inl (vp_updL f 0 (fr_X3_node σ (xs (5 * t + 1)) (xs (5 * t + 2))).toInt64))))]) (As := []) (rest := []) C zw_tbl pk_X4_thrown zl_L_45 (m_X4_thrown hJm 0 (fn_X4_node τ (xs (5 * t + 1)) (xs (5 * t + 2))).1) (by decide) hJm (fun h => h.sub [0, 3] rfl) zm_recv rfl rfl rfl (Nat.le_of_ble_eq_true rfl) dL_law_369 ⟨by show 120 + t + 1 ≤ 603523; omega, by show 1925 + 6 * t + 6 ≤ 7285534; omega⟩ rfl ?_
    refine zn_iload C dL_law_372 (j := 1) rfl ?_
    refine zn_icmp_eq (tgt := 379) C dL_law_374 (by decide) (fun _ => ?_) (fun q => absurd b2 q)
    refine zn_iload C dL_law_379 (j := 1) rfl ?_
    refine zn_if_ne (tgt := 396) C dL_law_381 (by decide) (fun q => absurd rfl q) (fun _ => ?_)
    refine zn_aload_n C dL_law_384 rfl (j := 3) rfl ?_
    refine zn_iconst (v := 0) C dL_law_385 rfl ?_
    refine zn_lald C 119 4 (zl_out _ _ _) rfl (by unfold vp_in; decide) dL_law_386 ?_
    refine zn_iload C dL_law_387 (j := 0) rfl ?_
    refine zn_i2l C dL_law_389 ?_
    refine zn_lcmp C dL_law_390 ?_
    refine zn_if_eq (tgt := 396) C dL_law_391 (by decide) (fun _ => ?_) (fun q => absurd (by rw [← b3]; exact lg_same _) q)
    refine zn_goto (tgt := 449) C dL_law_396 (by decide) ?_
    refine zn_sub [2, 3, 4, 5, 6] rfl ?_
    refine zn_widen (k' := 120 + (t + 1)) (n' := 1925 + 6 * (t + 1)) (by omega) (by omega) ?_
    exact kk _ _ (vp_updL f 0 (fr_X3_node σ (xs (5 * t + 1)) (xs (5 * t + 2))).toInt64) a1 (zr_Imono (by omega) a2)
end ZLC
