theorem zl_oi_X4 : Cond.methodLink RX4 1 Lib.objectInit ∈ zw_G := zw_mem 515 (by decide +kernel) rfl
theorem zl_fX4_20 : Cond.fieldLink RX4 20 "SplitStoreModel" "next" "[I" ∈ zw_G := zw_mem 519 (by decide +kernel) rfl
theorem zl_fX4_27 : Cond.fieldLink RX4 27 "SplitStoreModel" "keyOf" "[I" ∈ zw_G := zw_mem 521 (by decide +kernel) rfl
theorem zl_fX4_39 : Cond.fieldLink RX4 39 "SplitStoreModel" "buckets" "[I" ∈ zw_G := zw_mem 525 (by decide +kernel) rfl
theorem zl_fX4_93 : Cond.fieldLink RX4 93 "SplitStoreModel" "own" "[I" ∈ zw_G := zw_mem 543 (by decide +kernel) rfl
theorem zl_fX4_111 : Cond.fieldLink RX4 111 "SplitStoreModel" "results" "[I" ∈ zw_G := zw_mem 549 (by decide +kernel) rfl
theorem zl_fX4_7 : Cond.fieldLink RX4 7 "SplitStoreModel" "thrownCode" "I" ∈ zw_G := zw_mem 516 (by decide +kernel) rfl
theorem zl_fX4_13 : Cond.fieldLink RX4 13 "SplitStoreModel" "sort" "[I" ∈ zw_G := zw_mem 517 (by decide +kernel) rfl
theorem zl_fX4_17 : Cond.fieldLink RX4 17 "SplitStoreModel" "order" "[I" ∈ zw_G := zw_mem 518 (by decide +kernel) rfl
theorem zl_fX4_23 : Cond.fieldLink RX4 23 "SplitStoreModel" "mark" "[Z" ∈ zw_G := zw_mem 520 (by decide +kernel) rfl
theorem zl_fX4_30 : Cond.fieldLink RX4 30 "SplitStoreModel" "valueOf" "[I" ∈ zw_G := zw_mem 522 (by decide +kernel) rfl
theorem zl_fX4_33 : Cond.fieldLink RX4 33 "SplitStoreModel" "born" "[I" ∈ zw_G := zw_mem 523 (by decide +kernel) rfl
theorem zl_fX4_36 : Cond.fieldLink RX4 36 "SplitStoreModel" "died" "[I" ∈ zw_G := zw_mem 524 (by decide +kernel) rfl
theorem zl_fX4_42 : Cond.fieldLink RX4 42 "SplitStoreModel" "size" "I" ∈ zw_G := zw_mem 526 (by decide +kernel) rfl
theorem zl_fX4_45 : Cond.fieldLink RX4 45 "SplitStoreModel" "count" "I" ∈ zw_G := zw_mem 527 (by decide +kernel) rfl
theorem zl_fX4_48 : Cond.fieldLink RX4 48 "SplitStoreModel" "era" "I" ∈ zw_G := zw_mem 528 (by decide +kernel) rfl
theorem zl_fX4_51 : Cond.fieldLink RX4 51 "SplitStoreModel" "place" "[I" ∈ zw_G := zw_mem 529 (by decide +kernel) rfl
theorem zl_fX4_54 : Cond.fieldLink RX4 54 "SplitStoreModel" "operation" "[I" ∈ zw_G := zw_mem 530 (by decide +kernel) rfl
theorem zl_fX4_57 : Cond.fieldLink RX4 57 "SplitStoreModel" "key" "[I" ∈ zw_G := zw_mem 531 (by decide +kernel) rfl
theorem zl_fX4_60 : Cond.fieldLink RX4 60 "SplitStoreModel" "value" "[I" ∈ zw_G := zw_mem 532 (by decide +kernel) rfl
theorem zl_fX4_63 : Cond.fieldLink RX4 63 "SplitStoreModel" "low" "[I" ∈ zw_G := zw_mem 533 (by decide +kernel) rfl
theorem zl_fX4_66 : Cond.fieldLink RX4 66 "SplitStoreModel" "high" "[I" ∈ zw_G := zw_mem 534 (by decide +kernel) rfl
theorem zl_fX4_69 : Cond.fieldLink RX4 69 "SplitStoreModel" "at" "[I" ∈ zw_G := zw_mem 535 (by decide +kernel) rfl
theorem zl_fX4_72 : Cond.fieldLink RX4 72 "SplitStoreModel" "stack" "[I" ∈ zw_G := zw_mem 536 (by decide +kernel) rfl
theorem zl_fX4_75 : Cond.fieldLink RX4 75 "SplitStoreModel" "depth" "[I" ∈ zw_G := zw_mem 537 (by decide +kernel) rfl
theorem zl_fX4_78 : Cond.fieldLink RX4 78 "SplitStoreModel" "from" "[I" ∈ zw_G := zw_mem 538 (by decide +kernel) rfl
theorem zl_fX4_81 : Cond.fieldLink RX4 81 "SplitStoreModel" "prev" "[I" ∈ zw_G := zw_mem 539 (by decide +kernel) rfl
theorem zl_fX4_84 : Cond.fieldLink RX4 84 "SplitStoreModel" "cur" "[I" ∈ zw_G := zw_mem 540 (by decide +kernel) rfl
theorem zl_fX4_87 : Cond.fieldLink RX4 87 "SplitStoreModel" "nxt" "[I" ∈ zw_G := zw_mem 541 (by decide +kernel) rfl
theorem zl_fX4_90 : Cond.fieldLink RX4 90 "SplitStoreModel" "marked" "[Z" ∈ zw_G := zw_mem 542 (by decide +kernel) rfl
theorem zl_fX4_96 : Cond.fieldLink RX4 96 "SplitStoreModel" "given" "[I" ∈ zw_G := zw_mem 544 (by decide +kernel) rfl
theorem zl_fX4_99 : Cond.fieldLink RX4 99 "SplitStoreModel" "cleans" "[Z" ∈ zw_G := zw_mem 545 (by decide +kernel) rfl
theorem zl_fX4_102 : Cond.fieldLink RX4 102 "SplitStoreModel" "gone" "[I" ∈ zw_G := zw_mem 546 (by decide +kernel) rfl
theorem zl_fX4_105 : Cond.fieldLink RX4 105 "SplitStoreModel" "row" "[I" ∈ zw_G := zw_mem 547 (by decide +kernel) rfl
theorem zl_fX4_108 : Cond.fieldLink RX4 108 "SplitStoreModel" "rows" "[I" ∈ zw_G := zw_mem 548 (by decide +kernel) rfl
theorem zn_J {A : Nat → Prop} {N : Nat} {ad : Nat → Nat} {cf : Nat → va_E} (hD : va_D A (zs_wl N ad cf)) : zs_J N ad := fun i j hi hj he => hD.1 i j _ _ (zs_wl_get hi) (zs_wl_get hj) he
def zm_τ0 : zs_T := fun c _ => if c = 32 ∨ c = 34 then 1 else 0
def zm_B (x y z : Nat) (τ : zs_T) : Prop := (∀ t, t < x → τ 2 t = -1 ∧ τ 4 t = -1) ∧ (∀ t, 1 ≤ t → t < y → τ 31 t = -1) ∧ τ 31 0 = 0 ∧ (∀ t, t < z → τ 22 t = -1 ∧ τ 26 t = -1) ∧ (∀ t, t ≠ 0 → τ 0 t = 0 ∧ τ 6 t = 0) ∧ ∀ c t, c ≠ 0 → c ≠ 2 → c ≠ 4 → c ≠ 6 → c ≠ 22 → c ≠ 26 → c ≠ 31 → τ c t = zm_τ0 c t
theorem zm_B0 : zm_B 0 1 0 zm_τ0 := ⟨fun t h => absurd h (by omega), fun t h1 h2 => absurd h1 (by omega), rfl, fun t h => absurd h (by omega), fun t _ => ⟨rfl, rfl⟩, fun _ _ _ _ _ _ _ _ _ => rfl⟩
theorem zm_B1 {x y z : Nat} {τ : zs_T} (h : zm_B x y z τ) : zm_B (x + 1) y z (zs_u (zs_u τ 2 x (-1)) 4 x (-1)) := by
  obtain ⟨h1, h2, h3, h4, h5, h6⟩ := h
  refine ⟨fun t ht => ?_, fun t g1 g2 => ?_, ?_, fun t ht => ?_, fun t ht => ?_, fun c t c0 c2 c4 c6 c22 c26 c31 => ?_⟩
  · by_cases hx : t = x
    · subst hx; constructor
      · rw [zs_uc (by decide), zs_us]
      · rw [zs_us]
    · rw [zs_uk hx, zs_uk hx, zs_uk hx, zs_uk hx]; exact h1 t (by omega)
  · rw [zs_uc (by decide), zs_uc (by decide)]; exact h2 t g1 g2
  · rw [zs_uc (by decide), zs_uc (by decide)]; exact h3
  · rw [zs_uc (by decide), zs_uc (by decide), zs_uc (by decide), zs_uc (by decide)]; exact h4 t ht
  · rw [zs_uc (by decide), zs_uc (by decide), zs_uc (by decide), zs_uc (by decide)]; exact h5 t ht
  · rw [zs_uc c4, zs_uc c2]; exact h6 c t c0 c2 c4 c6 c22 c26 c31
theorem zm_B2 {x y z : Nat} {τ : zs_T} (hy : 1 ≤ y) (h : zm_B x y z τ) : zm_B x (y + 1) z (zs_u τ 31 y (-1)) := by
  obtain ⟨h1, h2, h3, h4, h5, h6⟩ := h
  refine ⟨fun t ht => ?_, fun t g1 g2 => ?_, ?_, fun t ht => ?_, fun t ht => ?_, fun c t c0 c2 c4 c6 c22 c26 c31 => ?_⟩
  · rw [zs_uc (by decide), zs_uc (by decide)]; exact h1 t ht
  · by_cases hx : t = y
    · subst hx; rw [zs_us]
    · rw [zs_uk hx]; exact h2 t g1 (by omega)
  · rw [zs_uk (by omega)]; exact h3
  · rw [zs_uc (by decide), zs_uc (by decide)]; exact h4 t ht
  · rw [zs_uc (by decide), zs_uc (by decide)]; exact h5 t ht
  · rw [zs_uc c31]; exact h6 c t c0 c2 c4 c6 c22 c26 c31
theorem zm_B3 {x y z : Nat} {τ : zs_T} (h : zm_B x y z τ) : zm_B x y (z + 1) (zs_u (zs_u τ 22 z (-1)) 26 z (-1)) := by
  obtain ⟨h1, h2, h3, h4, h5, h6⟩ := h
  refine ⟨fun t ht => ?_, fun t g1 g2 => ?_, ?_, fun t ht => ?_, fun t ht => ?_, fun c t c0 c2 c4 c6 c22 c26 c31 => ?_⟩
  · rw [zs_uc (by decide), zs_uc (by decide), zs_uc (by decide), zs_uc (by decide)]; exact h1 t ht
  · rw [zs_uc (by decide), zs_uc (by decide)]; exact h2 t g1 g2
  · rw [zs_uc (by decide), zs_uc (by decide)]; exact h3
  · by_cases hx : t = z
    · subst hx; constructor
      · rw [zs_uc (by decide), zs_us]
      · rw [zs_us]
    · rw [zs_uk hx, zs_uk hx, zs_uk hx, zs_uk hx]; exact h4 t (by omega)
  · rw [zs_uc (by decide), zs_uc (by decide), zs_uc (by decide), zs_uc (by decide)]; exact h5 t ht
  · rw [zs_uc c26, zs_uc c22]; exact h6 c t c0 c2 c4 c6 c22 c26 c31
theorem zm_B4 {x y z : Nat} {τ : zs_T} (h : zm_B x y z τ) : zm_B x y z (zs_u (zs_u τ 0 0 1) 6 0 1) := by
  obtain ⟨h1, h2, h3, h4, h5, h6⟩ := h
  refine ⟨fun t ht => ?_, fun t g1 g2 => ?_, ?_, fun t ht => ?_, fun t ht => ?_, fun c t c0 c2 c4 c6 c22 c26 c31 => ?_⟩
  · rw [zs_uc (by decide), zs_uc (by decide), zs_uc (by decide), zs_uc (by decide)]; exact h1 t ht
  · rw [zs_uc (by decide), zs_uc (by decide)]; exact h2 t g1 g2
  · rw [zs_uc (by decide), zs_uc (by decide)]; exact h3
  · rw [zs_uc (by decide), zs_uc (by decide), zs_uc (by decide), zs_uc (by decide)]; exact h4 t ht
  · rw [zs_uk ht, zs_uk ht, zs_uk ht, zs_uk ht]; exact h5 t ht
  · rw [zs_uc c6, zs_uc c0]; exact h6 c t c0 c2 c4 c6 c22 c26 c31
section ZMI
variable {p : Program} {l : Launch} {e : Env} {R : Room} {s : State} {m : MethodId} {args : Array Value} {below : List Frame} {meth : Method} {c : Code} {D : va_G} {cI cN cW cZ cL : ClassId} {A : Nat → Prop} {Q : State → Prop} {w0 : Cond} {am : Nat → Nat}
set_option maxRecDepth 20000 in
theorem k_X4_l1 (C : zn_C p s m args meth c cX4_init 2 (w0 :: zw_G) RX4 D vwCl (tysA cI cN cW cZ cL) A)  (kk : ∀ τ : zs_T, zm_B 64 1 0 τ → zn_Z p l e (zn_rm 1 30 924) s m args below meth c D vwCl A 2 Q (zs_wl 31 am (wM cI cZ am τ)) 30 924 274 [(1, .int (nI 64)), (0, .ref (am 0))] []) : ∀ (N j : Nat) (τ : zs_T), N + j = 64 → 0 ≤ j → zm_B j 1 0 τ → zn_Z p l e (zn_rm 1 30 924) s m args below meth c D vwCl A 2 Q (zs_wl 31 am (wM cI cZ am τ)) 30 924 248 [(1, .int (nI j)), (0, .ref (am 0))] [] := by
  intro N
  induction N with
  | zero =>
    intro j τ hj hs hi
    obtain rfl : j = 64 := by omega
    refine zn_iload_n C dX4_init_248 rfl (j := 0) rfl ?_
    refine zn_bipush (v := nI 64) C dX4_init_249 rfl ?_
    exact zn_icmp_ge (tgt := 274) C dX4_init_251 (by decide) (fun _ => kk τ hi) (fun q => absurd (nI_le (Nat.le_refl 64) (by decide)) q)
  | succ N ih =>
    intro j τ hj hs hi
    have hjb : j < 64 := by omega
    refine zn_iload_n C dX4_init_248 rfl (j := 0) rfl ?_
    refine zn_bipush (v := nI 64) C dX4_init_249 rfl ?_
    refine zn_icmp_ge (tgt := 274) C dX4_init_251 (by decide) (fun q => absurd q (nI_ge hjb (by decide))) (fun _ => ?_)
    refine zn_aload_n C dX4_init_254 rfl (j := 1) rfl ?_
    refine zn_get C (fun w h => zw_in (zw_fX4 w h)) 0 (zs_wl_get (by decide)) rfl 3 (by decide) (zw_in zl_fX4_20) rfl dX4_init_255 ?_
    refine zn_iload_n C dX4_init_258 rfl (j := 0) rfl ?_
    refine zn_iconst (v := -1) C dX4_init_259 rfl ?_
    refine zn_iast (ws' := zs_wl 31 am (wM cI cZ am (zs_u τ 2 j (-1)))) C 3 0 (zs_wl_get (by decide)) rfl (vp_in_nI hjb (by decide)) (by rw [nI_clamp (by omega)]; exact zs_wl_set (zm_set_next j (-1))) dX4_init_260 ?_
    refine zn_aload_n C dX4_init_261 rfl (j := 1) rfl ?_
    refine zn_get C (fun w h => zw_in (zw_fX4 w h)) 0 (zs_wl_get (by decide)) rfl 5 (by decide) (zw_in zl_fX4_27) rfl dX4_init_262 ?_
    refine zn_iload_n C dX4_init_265 rfl (j := 0) rfl ?_
    refine zn_iconst (v := -1) C dX4_init_266 rfl ?_
    refine zn_iast (ws' := zs_wl 31 am (wM cI cZ am (zs_u (zs_u τ 2 j (-1)) 4 j (-1)))) C 5 0 (zs_wl_get (by decide)) rfl (vp_in_nI hjb (by decide)) (by rw [nI_clamp (by omega)]; exact zs_wl_set (zm_set_keyOf j (-1))) dX4_init_267 ?_
    refine zn_iinc (v := nI (j + 1)) (lv' := [(1, .int (nI (j + 1))), (0, .ref (am 0))]) C dX4_init_268 (j := 0) rfl (nI_1 j) (by decide) rfl ?_
    refine zn_goto (tgt := 248) C dX4_init_271 (by decide) ?_
    exact ih (j + 1) _ (by omega) (by omega) (zm_B1 hi)
set_option maxRecDepth 20000 in
theorem k_X4_l2 (C : zn_C p s m args meth c cX4_init 2 (w0 :: zw_G) RX4 D vwCl (tysA cI cN cW cZ cL) A)  (kk : ∀ τ : zs_T, zm_B 64 16 0 τ → zn_Z p l e (zn_rm 1 30 924) s m args below meth c D vwCl A 2 Q (zs_wl 31 am (wM cI cZ am τ)) 30 924 295 [(1, .int (nI 16)), (0, .ref (am 0))] []) : ∀ (N j : Nat) (τ : zs_T), N + j = 16 → 1 ≤ j → zm_B 64 j 0 τ → zn_Z p l e (zn_rm 1 30 924) s m args below meth c D vwCl A 2 Q (zs_wl 31 am (wM cI cZ am τ)) 30 924 276 [(1, .int (nI j)), (0, .ref (am 0))] [] := by
  intro N
  induction N with
  | zero =>
    intro j τ hj hs hi
    obtain rfl : j = 16 := by omega
    refine zn_iload_n C dX4_init_276 rfl (j := 0) rfl ?_
    refine zn_bipush (v := nI 16) C dX4_init_277 rfl ?_
    exact zn_icmp_ge (tgt := 295) C dX4_init_279 (by decide) (fun _ => kk τ hi) (fun q => absurd (nI_le (Nat.le_refl 16) (by decide)) q)
  | succ N ih =>
    intro j τ hj hs hi
    have hjb : j < 16 := by omega
    refine zn_iload_n C dX4_init_276 rfl (j := 0) rfl ?_
    refine zn_bipush (v := nI 16) C dX4_init_277 rfl ?_
    refine zn_icmp_ge (tgt := 295) C dX4_init_279 (by decide) (fun q => absurd q (nI_ge hjb (by decide))) (fun _ => ?_)
    refine zn_aload_n C dX4_init_282 rfl (j := 1) rfl ?_
    refine zn_get C (fun w h => zw_in (zw_fX4 w h)) 0 (zs_wl_get (by decide)) rfl 9 (by decide) (zw_in zl_fX4_39) rfl dX4_init_283 ?_
    refine zn_iload_n C dX4_init_286 rfl (j := 0) rfl ?_
    refine zn_iconst (v := -1) C dX4_init_287 rfl ?_
    refine zn_iast (ws' := zs_wl 31 am (wM cI cZ am (zs_u τ 31 j (-1)))) C 9 0 (zs_wl_get (by decide)) rfl (vp_in_nI hjb (by decide)) (by rw [nI_clamp (by omega)]; exact zs_wl_set (zm_set_buckets j (-1))) dX4_init_288 ?_
    refine zn_iinc (v := nI (j + 1)) (lv' := [(1, .int (nI (j + 1))), (0, .ref (am 0))]) C dX4_init_289 (j := 0) rfl (nI_1 j) (by decide) rfl ?_
    refine zn_goto (tgt := 276) C dX4_init_292 (by decide) ?_
    exact ih (j + 1) _ (by omega) (by omega) (zm_B2 hs hi)
set_option maxRecDepth 20000 in
theorem k_X4_l3 (C : zn_C p s m args meth c cX4_init 2 (w0 :: zw_G) RX4 D vwCl (tysA cI cN cW cZ cL) A)  (kk : ∀ τ : zs_T, (zm_B 64 16 4 τ ∧ τ 0 0 = 1 ∧ τ 6 0 = 1) → zn_Z p l e (zn_rm 1 30 924) s m args below meth c D vwCl A 2 Q (zs_wl 31 am (wM cI cZ am τ)) 30 924 336 [(1, .int (nI 4)), (0, .ref (am 0))] []) : ∀ (N j : Nat) (τ : zs_T), N + j = 4 → 0 ≤ j → (zm_B 64 16 j τ ∧ τ 0 0 = 1 ∧ τ 6 0 = 1) → zn_Z p l e (zn_rm 1 30 924) s m args below meth c D vwCl A 2 Q (zs_wl 31 am (wM cI cZ am τ)) 30 924 311 [(1, .int (nI j)), (0, .ref (am 0))] [] := by
  intro N
  induction N with
  | zero =>
    intro j τ hj hs hi
    obtain rfl : j = 4 := by omega
    refine zn_iload_n C dX4_init_311 rfl (j := 0) rfl ?_
    refine zn_iconst (v := nI 4) C dX4_init_312 rfl ?_
    exact zn_icmp_ge (tgt := 336) C dX4_init_313 (by decide) (fun _ => kk τ hi) (fun q => absurd (nI_le (Nat.le_refl 4) (by decide)) q)
  | succ N ih =>
    intro j τ hj hs hi
    have hjb : j < 4 := by omega
    refine zn_iload_n C dX4_init_311 rfl (j := 0) rfl ?_
    refine zn_iconst (v := nI 4) C dX4_init_312 rfl ?_
    refine zn_icmp_ge (tgt := 336) C dX4_init_313 (by decide) (fun q => absurd q (nI_ge hjb (by decide))) (fun _ => ?_)
    refine zn_aload_n C dX4_init_316 rfl (j := 1) rfl ?_
    refine zn_get C (fun w h => zw_in (zw_fX4 w h)) 0 (zs_wl_get (by decide)) rfl 27 (by decide) (zw_in zl_fX4_93) rfl dX4_init_317 ?_
    refine zn_iload_n C dX4_init_320 rfl (j := 0) rfl ?_
    refine zn_iconst (v := -1) C dX4_init_321 rfl ?_
    refine zn_iast (ws' := zs_wl 31 am (wM cI cZ am (zs_u τ 22 j (-1)))) C 24 0 (zs_wl_get (by decide)) rfl (vp_in_nI hjb (by decide)) (by rw [nI_clamp (by omega)]; exact zs_wl_set (zm_set_own j (-1))) dX4_init_322 ?_
    refine zn_aload_n C dX4_init_323 rfl (j := 1) rfl ?_
    refine zn_get C (fun w h => zw_in (zw_fX4 w h)) 0 (zs_wl_get (by decide)) rfl 33 (by decide) (zw_in zl_fX4_111) rfl dX4_init_324 ?_
    refine zn_iload_n C dX4_init_327 rfl (j := 0) rfl ?_
    refine zn_iconst (v := -1) C dX4_init_328 rfl ?_
    refine zn_iast (ws' := zs_wl 31 am (wM cI cZ am (zs_u (zs_u τ 22 j (-1)) 26 j (-1)))) C 30 0 (zs_wl_get (by decide)) rfl (vp_in_nI hjb (by decide)) (by rw [nI_clamp (by omega)]; exact zs_wl_set (zm_set_results j (-1))) dX4_init_329 ?_
    refine zn_iinc (v := nI (j + 1)) (lv' := [(1, .int (nI (j + 1))), (0, .ref (am 0))]) C dX4_init_330 (j := 0) rfl (nI_1 j) (by decide) rfl ?_
    refine zn_goto (tgt := 311) C dX4_init_333 (by decide) ?_
    exact ih (j + 1) _ (by omega) (by omega) ⟨zm_B3 hi.1, by rw [zs_uc (by decide), zs_uc (by decide)]; exact hi.2.1, by rw [zs_uc (by decide), zs_uc (by decide)]; exact hi.2.2⟩
end ZMI
set_option maxHeartbeats 4000000 in
set_option maxRecDepth 20000 in
theorem k_X4_init {l : Launch} {D : va_G} {cI cN cW cZ cL : ClassId} (h0 : Nat) : zn_M l D vwCl (tysA cI cN cW cZ cL) (fun _ => True) yX4_init (Cond.code yX4_init cX4_init 2 none :: zw_G) (zn_rm 1 30 924) [.ref h0] [(h0, .inr (4, [.int 0, .null, .null, .null, .null, .null, .null, .null, .null, .null, .int 0, .int 0, .int 0, .null, .null, .null, .null, .null, .null, .null, .null, .null, .null, .null, .null, .null, .null, .null, .null, .null, .null, .null, .null, .null]))] (fun v w => v = none ∧ ∃ (am : Nat → Nat) (τ : zs_T), am 0 = h0 ∧ zm_B 64 16 4 τ ∧ τ 0 0 = 1 ∧ τ 6 0 = 1 ∧ w = zs_wl 31 am (wM cI cZ am τ)) 30 924 := by
  refine zn_ofZ (cc := cX4_init) (nL := 2) (ret := none) (lv0 := [(0, .ref h0)]) (by decide) rfl (Nat.le_of_ble_eq_true rfl) rfl ?_
  intro p e s m args below meth c C hr hnm _
  refine zn_aload_n C dX4_init_0 rfl (j := 0) rfl ?_
  refine zn_objInit C (zw_in zl_oi_X4) (zw_in zl_oi_m) (zw_in zl_oi_c) (Nat.le_of_ble_eq_true rfl) (Nat.le_of_ble_eq_true rfl) dX4_init_1 ?_
  refine zn_aload_n C dX4_init_4 rfl (j := 0) rfl ?_
  refine zn_iconst (v := 0) C dX4_init_5 rfl ?_
  refine zn_put (ty := .int) (ws' := [(h0, .inr (4, [.int 0, .null, .null, .null, .null, .null, .null, .null, .null, .null, .int 0, .int 0, .int 0, .null, .null, .null, .null, .null, .null, .null, .null, .null, .null, .null, .null, .null, .null, .null, .null, .null, .null, .null, .null, .null]))]) C (fun w h => zw_in (zw_fX4 w h)) tyX4 tyX4_ok nmX4 0 rfl rfl 0 (by decide) (zw_in zl_fX4_7) rfl (by decide +kernel) rfl rfl (Nat.le_of_ble_eq_true rfl) rfl dX4_init_6 ?_
  refine zn_aload_n C dX4_init_9 rfl (j := 0) rfl ?_
  refine zn_bipush (v := 64) C dX4_init_10 rfl ?_
  refine zn_newa (atype := .int) (ty := .int) (N := 64) (a0 := (64, .inl (fun _ => 0))) C (zw_in zl_aint) rfl 0 rfl (fun _ => rfl) (by decide) (by decide) (by decide) (by decide) (by decide) dX4_init_12 (fun a1 => ?_)
  refine zn_putF (ty := tyX4 1) (ws' := [(h0, .inr (4, [.int 0, .ref a1, .null, .null, .null, .null, .null, .null, .null, .null, .int 0, .int 0, .int 0, .null, .null, .null, .null, .null, .null, .null, .null, .null, .null, .null, .null, .null, .null, .null, .null, .null, .null, .null, .null, .null])), (a1, .inl (cI, 64, .inl (fun _ => 0)))]) C (fun w h => zw_in (zw_fX4 w h)) tyX4 tyX4_ok nmX4 0 rfl rfl 1 (by decide) (zw_in zl_fX4_13) rfl hnm rfl (by decide +kernel) rfl rfl (Nat.le_of_ble_eq_true rfl) rfl dX4_init_14 ?_
  refine zn_aload_n C dX4_init_17 rfl (j := 0) rfl ?_
  refine zn_bipush (v := 64) C dX4_init_18 rfl ?_
  refine zn_newa (atype := .int) (ty := .int) (N := 64) (a0 := (64, .inl (fun _ => 0))) C (zw_in zl_aint) rfl 0 rfl (fun _ => rfl) (by decide) (by decide) (by decide) (by decide) (by decide) dX4_init_20 (fun a2 => ?_)
  refine zn_putF (ty := tyX4 2) (ws' := [(h0, .inr (4, [.int 0, .ref a1, .ref a2, .null, .null, .null, .null, .null, .null, .null, .int 0, .int 0, .int 0, .null, .null, .null, .null, .null, .null, .null, .null, .null, .null, .null, .null, .null, .null, .null, .null, .null, .null, .null, .null, .null])), (a1, .inl (cI, 64, .inl (fun _ => 0))), (a2, .inl (cI, 64, .inl (fun _ => 0)))]) C (fun w h => zw_in (zw_fX4 w h)) tyX4 tyX4_ok nmX4 0 rfl rfl 2 (by decide) (zw_in zl_fX4_17) rfl hnm rfl (by decide +kernel) rfl rfl (Nat.le_of_ble_eq_true rfl) rfl dX4_init_22 ?_
  refine zn_aload_n C dX4_init_25 rfl (j := 0) rfl ?_
  refine zn_bipush (v := 64) C dX4_init_26 rfl ?_
  refine zn_newa (atype := .int) (ty := .int) (N := 64) (a0 := (64, .inl (fun _ => 0))) C (zw_in zl_aint) rfl 0 rfl (fun _ => rfl) (by decide) (by decide) (by decide) (by decide) (by decide) dX4_init_28 (fun a3 => ?_)
  refine zn_putF (ty := tyX4 3) (ws' := [(h0, .inr (4, [.int 0, .ref a1, .ref a2, .ref a3, .null, .null, .null, .null, .null, .null, .int 0, .int 0, .int 0, .null, .null, .null, .null, .null, .null, .null, .null, .null, .null, .null, .null, .null, .null, .null, .null, .null, .null, .null, .null, .null])), (a1, .inl (cI, 64, .inl (fun _ => 0))), (a2, .inl (cI, 64, .inl (fun _ => 0))), (a3, .inl (cI, 64, .inl (fun _ => 0)))]) C (fun w h => zw_in (zw_fX4 w h)) tyX4 tyX4_ok nmX4 0 rfl rfl 3 (by decide) (zw_in zl_fX4_20) rfl hnm rfl (by decide +kernel) rfl rfl (Nat.le_of_ble_eq_true rfl) rfl dX4_init_30 ?_
  refine zn_aload_n C dX4_init_33 rfl (j := 0) rfl ?_
  refine zn_bipush (v := 64) C dX4_init_34 rfl ?_
  refine zn_newa (atype := .boolean) (ty := .boolean) (N := 64) (a0 := (64, .inl (fun _ => 0))) C (zw_in zl_aboolean) rfl 3 rfl (fun _ => rfl) (by decide) (by decide) (by decide) (by decide) (by decide) dX4_init_36 (fun a4 => ?_)
  refine zn_putF (ty := tyX4 4) (ws' := [(h0, .inr (4, [.int 0, .ref a1, .ref a2, .ref a3, .ref a4, .null, .null, .null, .null, .null, .int 0, .int 0, .int 0, .null, .null, .null, .null, .null, .null, .null, .null, .null, .null, .null, .null, .null, .null, .null, .null, .null, .null, .null, .null, .null])), (a1, .inl (cI, 64, .inl (fun _ => 0))), (a2, .inl (cI, 64, .inl (fun _ => 0))), (a3, .inl (cI, 64, .inl (fun _ => 0))), (a4, .inl (cZ, 64, .inl (fun _ => 0)))]) C (fun w h => zw_in (zw_fX4 w h)) tyX4 tyX4_ok nmX4 0 rfl rfl 4 (by decide) (zw_in zl_fX4_23) rfl hnm rfl (by decide +kernel) rfl rfl (Nat.le_of_ble_eq_true rfl) rfl dX4_init_38 ?_
  refine zn_aload_n C dX4_init_41 rfl (j := 0) rfl ?_
  refine zn_bipush (v := 64) C dX4_init_42 rfl ?_
  refine zn_newa (atype := .int) (ty := .int) (N := 64) (a0 := (64, .inl (fun _ => 0))) C (zw_in zl_aint) rfl 0 rfl (fun _ => rfl) (by decide) (by decide) (by decide) (by decide) (by decide) dX4_init_44 (fun a5 => ?_)
  refine zn_putF (ty := tyX4 5) (ws' := [(h0, .inr (4, [.int 0, .ref a1, .ref a2, .ref a3, .ref a4, .ref a5, .null, .null, .null, .null, .int 0, .int 0, .int 0, .null, .null, .null, .null, .null, .null, .null, .null, .null, .null, .null, .null, .null, .null, .null, .null, .null, .null, .null, .null, .null])), (a1, .inl (cI, 64, .inl (fun _ => 0))), (a2, .inl (cI, 64, .inl (fun _ => 0))), (a3, .inl (cI, 64, .inl (fun _ => 0))), (a4, .inl (cZ, 64, .inl (fun _ => 0))), (a5, .inl (cI, 64, .inl (fun _ => 0)))]) C (fun w h => zw_in (zw_fX4 w h)) tyX4 tyX4_ok nmX4 0 rfl rfl 5 (by decide) (zw_in zl_fX4_27) rfl hnm rfl (by decide +kernel) rfl rfl (Nat.le_of_ble_eq_true rfl) rfl dX4_init_46 ?_
  refine zn_aload_n C dX4_init_49 rfl (j := 0) rfl ?_
  refine zn_bipush (v := 64) C dX4_init_50 rfl ?_
  refine zn_newa (atype := .int) (ty := .int) (N := 64) (a0 := (64, .inl (fun _ => 0))) C (zw_in zl_aint) rfl 0 rfl (fun _ => rfl) (by decide) (by decide) (by decide) (by decide) (by decide) dX4_init_52 (fun a6 => ?_)
  refine zn_putF (ty := tyX4 6) (ws' := [(h0, .inr (4, [.int 0, .ref a1, .ref a2, .ref a3, .ref a4, .ref a5, .ref a6, .null, .null, .null, .int 0, .int 0, .int 0, .null, .null, .null, .null, .null, .null, .null, .null, .null, .null, .null, .null, .null, .null, .null, .null, .null, .null, .null, .null, .null])), (a1, .inl (cI, 64, .inl (fun _ => 0))), (a2, .inl (cI, 64, .inl (fun _ => 0))), (a3, .inl (cI, 64, .inl (fun _ => 0))), (a4, .inl (cZ, 64, .inl (fun _ => 0))), (a5, .inl (cI, 64, .inl (fun _ => 0))), (a6, .inl (cI, 64, .inl (fun _ => 0)))]) C (fun w h => zw_in (zw_fX4 w h)) tyX4 tyX4_ok nmX4 0 rfl rfl 6 (by decide) (zw_in zl_fX4_30) rfl hnm rfl (by decide +kernel) rfl rfl (Nat.le_of_ble_eq_true rfl) rfl dX4_init_54 ?_
  refine zn_aload_n C dX4_init_57 rfl (j := 0) rfl ?_
  refine zn_bipush (v := 64) C dX4_init_58 rfl ?_
  refine zn_newa (atype := .int) (ty := .int) (N := 64) (a0 := (64, .inl (fun _ => 0))) C (zw_in zl_aint) rfl 0 rfl (fun _ => rfl) (by decide) (by decide) (by decide) (by decide) (by decide) dX4_init_60 (fun a7 => ?_)
  refine zn_putF (ty := tyX4 7) (ws' := [(h0, .inr (4, [.int 0, .ref a1, .ref a2, .ref a3, .ref a4, .ref a5, .ref a6, .ref a7, .null, .null, .int 0, .int 0, .int 0, .null, .null, .null, .null, .null, .null, .null, .null, .null, .null, .null, .null, .null, .null, .null, .null, .null, .null, .null, .null, .null])), (a1, .inl (cI, 64, .inl (fun _ => 0))), (a2, .inl (cI, 64, .inl (fun _ => 0))), (a3, .inl (cI, 64, .inl (fun _ => 0))), (a4, .inl (cZ, 64, .inl (fun _ => 0))), (a5, .inl (cI, 64, .inl (fun _ => 0))), (a6, .inl (cI, 64, .inl (fun _ => 0))), (a7, .inl (cI, 64, .inl (fun _ => 0)))]) C (fun w h => zw_in (zw_fX4 w h)) tyX4 tyX4_ok nmX4 0 rfl rfl 7 (by decide) (zw_in zl_fX4_33) rfl hnm rfl (by decide +kernel) rfl rfl (Nat.le_of_ble_eq_true rfl) rfl dX4_init_62 ?_
  refine zn_aload_n C dX4_init_65 rfl (j := 0) rfl ?_
  refine zn_bipush (v := 64) C dX4_init_66 rfl ?_
  refine zn_newa (atype := .int) (ty := .int) (N := 64) (a0 := (64, .inl (fun _ => 0))) C (zw_in zl_aint) rfl 0 rfl (fun _ => rfl) (by decide) (by decide) (by decide) (by decide) (by decide) dX4_init_68 (fun a8 => ?_)
  refine zn_putF (ty := tyX4 8) (ws' := [(h0, .inr (4, [.int 0, .ref a1, .ref a2, .ref a3, .ref a4, .ref a5, .ref a6, .ref a7, .ref a8, .null, .int 0, .int 0, .int 0, .null, .null, .null, .null, .null, .null, .null, .null, .null, .null, .null, .null, .null, .null, .null, .null, .null, .null, .null, .null, .null])), (a1, .inl (cI, 64, .inl (fun _ => 0))), (a2, .inl (cI, 64, .inl (fun _ => 0))), (a3, .inl (cI, 64, .inl (fun _ => 0))), (a4, .inl (cZ, 64, .inl (fun _ => 0))), (a5, .inl (cI, 64, .inl (fun _ => 0))), (a6, .inl (cI, 64, .inl (fun _ => 0))), (a7, .inl (cI, 64, .inl (fun _ => 0))), (a8, .inl (cI, 64, .inl (fun _ => 0)))]) C (fun w h => zw_in (zw_fX4 w h)) tyX4 tyX4_ok nmX4 0 rfl rfl 8 (by decide) (zw_in zl_fX4_36) rfl hnm rfl (by decide +kernel) rfl rfl (Nat.le_of_ble_eq_true rfl) rfl dX4_init_70 ?_
  refine zn_aload_n C dX4_init_73 rfl (j := 0) rfl ?_
  refine zn_bipush (v := 16) C dX4_init_74 rfl ?_
  refine zn_newa (atype := .int) (ty := .int) (N := 16) (a0 := (16, .inl (fun _ => 0))) C (zw_in zl_aint) rfl 0 rfl (fun _ => rfl) (by decide) (by decide) (by decide) (by decide) (by decide) dX4_init_76 (fun a9 => ?_)
  refine zn_putF (ty := tyX4 9) (ws' := [(h0, .inr (4, [.int 0, .ref a1, .ref a2, .ref a3, .ref a4, .ref a5, .ref a6, .ref a7, .ref a8, .ref a9, .int 0, .int 0, .int 0, .null, .null, .null, .null, .null, .null, .null, .null, .null, .null, .null, .null, .null, .null, .null, .null, .null, .null, .null, .null, .null])), (a1, .inl (cI, 64, .inl (fun _ => 0))), (a2, .inl (cI, 64, .inl (fun _ => 0))), (a3, .inl (cI, 64, .inl (fun _ => 0))), (a4, .inl (cZ, 64, .inl (fun _ => 0))), (a5, .inl (cI, 64, .inl (fun _ => 0))), (a6, .inl (cI, 64, .inl (fun _ => 0))), (a7, .inl (cI, 64, .inl (fun _ => 0))), (a8, .inl (cI, 64, .inl (fun _ => 0))), (a9, .inl (cI, 16, .inl (fun _ => 0)))]) C (fun w h => zw_in (zw_fX4 w h)) tyX4 tyX4_ok nmX4 0 rfl rfl 9 (by decide) (zw_in zl_fX4_39) rfl hnm rfl (by decide +kernel) rfl rfl (Nat.le_of_ble_eq_true rfl) rfl dX4_init_78 ?_
  refine zn_aload_n C dX4_init_81 rfl (j := 0) rfl ?_
  refine zn_iconst (v := 1) C dX4_init_82 rfl ?_
  refine zn_put (ty := .int) (ws' := [(h0, .inr (4, [.int 0, .ref a1, .ref a2, .ref a3, .ref a4, .ref a5, .ref a6, .ref a7, .ref a8, .ref a9, .int 1, .int 0, .int 0, .null, .null, .null, .null, .null, .null, .null, .null, .null, .null, .null, .null, .null, .null, .null, .null, .null, .null, .null, .null, .null])), (a1, .inl (cI, 64, .inl (fun _ => 0))), (a2, .inl (cI, 64, .inl (fun _ => 0))), (a3, .inl (cI, 64, .inl (fun _ => 0))), (a4, .inl (cZ, 64, .inl (fun _ => 0))), (a5, .inl (cI, 64, .inl (fun _ => 0))), (a6, .inl (cI, 64, .inl (fun _ => 0))), (a7, .inl (cI, 64, .inl (fun _ => 0))), (a8, .inl (cI, 64, .inl (fun _ => 0))), (a9, .inl (cI, 16, .inl (fun _ => 0)))]) C (fun w h => zw_in (zw_fX4 w h)) tyX4 tyX4_ok nmX4 0 rfl rfl 10 (by decide) (zw_in zl_fX4_42) rfl (by decide +kernel) rfl rfl (Nat.le_of_ble_eq_true rfl) rfl dX4_init_83 ?_
  refine zn_aload_n C dX4_init_86 rfl (j := 0) rfl ?_
  refine zn_iconst (v := 0) C dX4_init_87 rfl ?_
  refine zn_put (ty := .int) (ws' := [(h0, .inr (4, [.int 0, .ref a1, .ref a2, .ref a3, .ref a4, .ref a5, .ref a6, .ref a7, .ref a8, .ref a9, .int 1, .int 0, .int 0, .null, .null, .null, .null, .null, .null, .null, .null, .null, .null, .null, .null, .null, .null, .null, .null, .null, .null, .null, .null, .null])), (a1, .inl (cI, 64, .inl (fun _ => 0))), (a2, .inl (cI, 64, .inl (fun _ => 0))), (a3, .inl (cI, 64, .inl (fun _ => 0))), (a4, .inl (cZ, 64, .inl (fun _ => 0))), (a5, .inl (cI, 64, .inl (fun _ => 0))), (a6, .inl (cI, 64, .inl (fun _ => 0))), (a7, .inl (cI, 64, .inl (fun _ => 0))), (a8, .inl (cI, 64, .inl (fun _ => 0))), (a9, .inl (cI, 16, .inl (fun _ => 0)))]) C (fun w h => zw_in (zw_fX4 w h)) tyX4 tyX4_ok nmX4 0 rfl rfl 11 (by decide) (zw_in zl_fX4_45) rfl (by decide +kernel) rfl rfl (Nat.le_of_ble_eq_true rfl) rfl dX4_init_88 ?_
  refine zn_aload_n C dX4_init_91 rfl (j := 0) rfl ?_
  refine zn_iconst (v := 1) C dX4_init_92 rfl ?_
  refine zn_put (ty := .int) (ws' := [(h0, .inr (4, [.int 0, .ref a1, .ref a2, .ref a3, .ref a4, .ref a5, .ref a6, .ref a7, .ref a8, .ref a9, .int 1, .int 0, .int 1, .null, .null, .null, .null, .null, .null, .null, .null, .null, .null, .null, .null, .null, .null, .null, .null, .null, .null, .null, .null, .null])), (a1, .inl (cI, 64, .inl (fun _ => 0))), (a2, .inl (cI, 64, .inl (fun _ => 0))), (a3, .inl (cI, 64, .inl (fun _ => 0))), (a4, .inl (cZ, 64, .inl (fun _ => 0))), (a5, .inl (cI, 64, .inl (fun _ => 0))), (a6, .inl (cI, 64, .inl (fun _ => 0))), (a7, .inl (cI, 64, .inl (fun _ => 0))), (a8, .inl (cI, 64, .inl (fun _ => 0))), (a9, .inl (cI, 16, .inl (fun _ => 0)))]) C (fun w h => zw_in (zw_fX4 w h)) tyX4 tyX4_ok nmX4 0 rfl rfl 12 (by decide) (zw_in zl_fX4_48) rfl (by decide +kernel) rfl rfl (Nat.le_of_ble_eq_true rfl) rfl dX4_init_93 ?_
  refine zn_aload_n C dX4_init_96 rfl (j := 0) rfl ?_
  refine zn_iconst (v := 4) C dX4_init_97 rfl ?_
  refine zn_newa (atype := .int) (ty := .int) (N := 4) (a0 := (4, .inl (fun _ => 0))) C (zw_in zl_aint) rfl 0 rfl (fun _ => rfl) (by decide) (by decide) (by decide) (by decide) (by decide) dX4_init_98 (fun a10 => ?_)
  refine zn_putF (ty := tyX4 13) (ws' := [(h0, .inr (4, [.int 0, .ref a1, .ref a2, .ref a3, .ref a4, .ref a5, .ref a6, .ref a7, .ref a8, .ref a9, .int 1, .int 0, .int 1, .ref a10, .null, .null, .null, .null, .null, .null, .null, .null, .null, .null, .null, .null, .null, .null, .null, .null, .null, .null, .null, .null])), (a1, .inl (cI, 64, .inl (fun _ => 0))), (a2, .inl (cI, 64, .inl (fun _ => 0))), (a3, .inl (cI, 64, .inl (fun _ => 0))), (a4, .inl (cZ, 64, .inl (fun _ => 0))), (a5, .inl (cI, 64, .inl (fun _ => 0))), (a6, .inl (cI, 64, .inl (fun _ => 0))), (a7, .inl (cI, 64, .inl (fun _ => 0))), (a8, .inl (cI, 64, .inl (fun _ => 0))), (a9, .inl (cI, 16, .inl (fun _ => 0))), (a10, .inl (cI, 4, .inl (fun _ => 0)))]) C (fun w h => zw_in (zw_fX4 w h)) tyX4 tyX4_ok nmX4 0 rfl rfl 13 (by decide) (zw_in zl_fX4_51) rfl hnm rfl (by decide +kernel) rfl rfl (Nat.le_of_ble_eq_true rfl) rfl dX4_init_100 ?_
  refine zn_aload_n C dX4_init_103 rfl (j := 0) rfl ?_
  refine zn_iconst (v := 4) C dX4_init_104 rfl ?_
  refine zn_newa (atype := .int) (ty := .int) (N := 4) (a0 := (4, .inl (fun _ => 0))) C (zw_in zl_aint) rfl 0 rfl (fun _ => rfl) (by decide) (by decide) (by decide) (by decide) (by decide) dX4_init_105 (fun a11 => ?_)
  refine zn_putF (ty := tyX4 14) (ws' := [(h0, .inr (4, [.int 0, .ref a1, .ref a2, .ref a3, .ref a4, .ref a5, .ref a6, .ref a7, .ref a8, .ref a9, .int 1, .int 0, .int 1, .ref a10, .ref a11, .null, .null, .null, .null, .null, .null, .null, .null, .null, .null, .null, .null, .null, .null, .null, .null, .null, .null, .null])), (a1, .inl (cI, 64, .inl (fun _ => 0))), (a2, .inl (cI, 64, .inl (fun _ => 0))), (a3, .inl (cI, 64, .inl (fun _ => 0))), (a4, .inl (cZ, 64, .inl (fun _ => 0))), (a5, .inl (cI, 64, .inl (fun _ => 0))), (a6, .inl (cI, 64, .inl (fun _ => 0))), (a7, .inl (cI, 64, .inl (fun _ => 0))), (a8, .inl (cI, 64, .inl (fun _ => 0))), (a9, .inl (cI, 16, .inl (fun _ => 0))), (a10, .inl (cI, 4, .inl (fun _ => 0))), (a11, .inl (cI, 4, .inl (fun _ => 0)))]) C (fun w h => zw_in (zw_fX4 w h)) tyX4 tyX4_ok nmX4 0 rfl rfl 14 (by decide) (zw_in zl_fX4_54) rfl hnm rfl (by decide +kernel) rfl rfl (Nat.le_of_ble_eq_true rfl) rfl dX4_init_107 ?_
  refine zn_aload_n C dX4_init_110 rfl (j := 0) rfl ?_
  refine zn_iconst (v := 4) C dX4_init_111 rfl ?_
  refine zn_newa (atype := .int) (ty := .int) (N := 4) (a0 := (4, .inl (fun _ => 0))) C (zw_in zl_aint) rfl 0 rfl (fun _ => rfl) (by decide) (by decide) (by decide) (by decide) (by decide) dX4_init_112 (fun a12 => ?_)
  refine zn_putF (ty := tyX4 15) (ws' := [(h0, .inr (4, [.int 0, .ref a1, .ref a2, .ref a3, .ref a4, .ref a5, .ref a6, .ref a7, .ref a8, .ref a9, .int 1, .int 0, .int 1, .ref a10, .ref a11, .ref a12, .null, .null, .null, .null, .null, .null, .null, .null, .null, .null, .null, .null, .null, .null, .null, .null, .null, .null])), (a1, .inl (cI, 64, .inl (fun _ => 0))), (a2, .inl (cI, 64, .inl (fun _ => 0))), (a3, .inl (cI, 64, .inl (fun _ => 0))), (a4, .inl (cZ, 64, .inl (fun _ => 0))), (a5, .inl (cI, 64, .inl (fun _ => 0))), (a6, .inl (cI, 64, .inl (fun _ => 0))), (a7, .inl (cI, 64, .inl (fun _ => 0))), (a8, .inl (cI, 64, .inl (fun _ => 0))), (a9, .inl (cI, 16, .inl (fun _ => 0))), (a10, .inl (cI, 4, .inl (fun _ => 0))), (a11, .inl (cI, 4, .inl (fun _ => 0))), (a12, .inl (cI, 4, .inl (fun _ => 0)))]) C (fun w h => zw_in (zw_fX4 w h)) tyX4 tyX4_ok nmX4 0 rfl rfl 15 (by decide) (zw_in zl_fX4_57) rfl hnm rfl (by decide +kernel) rfl rfl (Nat.le_of_ble_eq_true rfl) rfl dX4_init_114 ?_
  refine zn_aload_n C dX4_init_117 rfl (j := 0) rfl ?_
  refine zn_iconst (v := 4) C dX4_init_118 rfl ?_
  refine zn_newa (atype := .int) (ty := .int) (N := 4) (a0 := (4, .inl (fun _ => 0))) C (zw_in zl_aint) rfl 0 rfl (fun _ => rfl) (by decide) (by decide) (by decide) (by decide) (by decide) dX4_init_119 (fun a13 => ?_)
  refine zn_putF (ty := tyX4 16) (ws' := [(h0, .inr (4, [.int 0, .ref a1, .ref a2, .ref a3, .ref a4, .ref a5, .ref a6, .ref a7, .ref a8, .ref a9, .int 1, .int 0, .int 1, .ref a10, .ref a11, .ref a12, .ref a13, .null, .null, .null, .null, .null, .null, .null, .null, .null, .null, .null, .null, .null, .null, .null, .null, .null])), (a1, .inl (cI, 64, .inl (fun _ => 0))), (a2, .inl (cI, 64, .inl (fun _ => 0))), (a3, .inl (cI, 64, .inl (fun _ => 0))), (a4, .inl (cZ, 64, .inl (fun _ => 0))), (a5, .inl (cI, 64, .inl (fun _ => 0))), (a6, .inl (cI, 64, .inl (fun _ => 0))), (a7, .inl (cI, 64, .inl (fun _ => 0))), (a8, .inl (cI, 64, .inl (fun _ => 0))), (a9, .inl (cI, 16, .inl (fun _ => 0))), (a10, .inl (cI, 4, .inl (fun _ => 0))), (a11, .inl (cI, 4, .inl (fun _ => 0))), (a12, .inl (cI, 4, .inl (fun _ => 0))), (a13, .inl (cI, 4, .inl (fun _ => 0)))]) C (fun w h => zw_in (zw_fX4 w h)) tyX4 tyX4_ok nmX4 0 rfl rfl 16 (by decide) (zw_in zl_fX4_60) rfl hnm rfl (by decide +kernel) rfl rfl (Nat.le_of_ble_eq_true rfl) rfl dX4_init_121 ?_
  refine zn_aload_n C dX4_init_124 rfl (j := 0) rfl ?_
  refine zn_iconst (v := 4) C dX4_init_125 rfl ?_
  refine zn_newa (atype := .int) (ty := .int) (N := 4) (a0 := (4, .inl (fun _ => 0))) C (zw_in zl_aint) rfl 0 rfl (fun _ => rfl) (by decide) (by decide) (by decide) (by decide) (by decide) dX4_init_126 (fun a14 => ?_)
  refine zn_putF (ty := tyX4 17) (ws' := [(h0, .inr (4, [.int 0, .ref a1, .ref a2, .ref a3, .ref a4, .ref a5, .ref a6, .ref a7, .ref a8, .ref a9, .int 1, .int 0, .int 1, .ref a10, .ref a11, .ref a12, .ref a13, .ref a14, .null, .null, .null, .null, .null, .null, .null, .null, .null, .null, .null, .null, .null, .null, .null, .null])), (a1, .inl (cI, 64, .inl (fun _ => 0))), (a2, .inl (cI, 64, .inl (fun _ => 0))), (a3, .inl (cI, 64, .inl (fun _ => 0))), (a4, .inl (cZ, 64, .inl (fun _ => 0))), (a5, .inl (cI, 64, .inl (fun _ => 0))), (a6, .inl (cI, 64, .inl (fun _ => 0))), (a7, .inl (cI, 64, .inl (fun _ => 0))), (a8, .inl (cI, 64, .inl (fun _ => 0))), (a9, .inl (cI, 16, .inl (fun _ => 0))), (a10, .inl (cI, 4, .inl (fun _ => 0))), (a11, .inl (cI, 4, .inl (fun _ => 0))), (a12, .inl (cI, 4, .inl (fun _ => 0))), (a13, .inl (cI, 4, .inl (fun _ => 0))), (a14, .inl (cI, 4, .inl (fun _ => 0)))]) C (fun w h => zw_in (zw_fX4 w h)) tyX4 tyX4_ok nmX4 0 rfl rfl 17 (by decide) (zw_in zl_fX4_63) rfl hnm rfl (by decide +kernel) rfl rfl (Nat.le_of_ble_eq_true rfl) rfl dX4_init_128 ?_
  refine zn_aload_n C dX4_init_131 rfl (j := 0) rfl ?_
  refine zn_iconst (v := 4) C dX4_init_132 rfl ?_
  refine zn_newa (atype := .int) (ty := .int) (N := 4) (a0 := (4, .inl (fun _ => 0))) C (zw_in zl_aint) rfl 0 rfl (fun _ => rfl) (by decide) (by decide) (by decide) (by decide) (by decide) dX4_init_133 (fun a15 => ?_)
  refine zn_putF (ty := tyX4 18) (ws' := [(h0, .inr (4, [.int 0, .ref a1, .ref a2, .ref a3, .ref a4, .ref a5, .ref a6, .ref a7, .ref a8, .ref a9, .int 1, .int 0, .int 1, .ref a10, .ref a11, .ref a12, .ref a13, .ref a14, .ref a15, .null, .null, .null, .null, .null, .null, .null, .null, .null, .null, .null, .null, .null, .null, .null])), (a1, .inl (cI, 64, .inl (fun _ => 0))), (a2, .inl (cI, 64, .inl (fun _ => 0))), (a3, .inl (cI, 64, .inl (fun _ => 0))), (a4, .inl (cZ, 64, .inl (fun _ => 0))), (a5, .inl (cI, 64, .inl (fun _ => 0))), (a6, .inl (cI, 64, .inl (fun _ => 0))), (a7, .inl (cI, 64, .inl (fun _ => 0))), (a8, .inl (cI, 64, .inl (fun _ => 0))), (a9, .inl (cI, 16, .inl (fun _ => 0))), (a10, .inl (cI, 4, .inl (fun _ => 0))), (a11, .inl (cI, 4, .inl (fun _ => 0))), (a12, .inl (cI, 4, .inl (fun _ => 0))), (a13, .inl (cI, 4, .inl (fun _ => 0))), (a14, .inl (cI, 4, .inl (fun _ => 0))), (a15, .inl (cI, 4, .inl (fun _ => 0)))]) C (fun w h => zw_in (zw_fX4 w h)) tyX4 tyX4_ok nmX4 0 rfl rfl 18 (by decide) (zw_in zl_fX4_66) rfl hnm rfl (by decide +kernel) rfl rfl (Nat.le_of_ble_eq_true rfl) rfl dX4_init_135 ?_
  refine zn_aload_n C dX4_init_138 rfl (j := 0) rfl ?_
  refine zn_iconst (v := 4) C dX4_init_139 rfl ?_
  refine zn_newa (atype := .int) (ty := .int) (N := 4) (a0 := (4, .inl (fun _ => 0))) C (zw_in zl_aint) rfl 0 rfl (fun _ => rfl) (by decide) (by decide) (by decide) (by decide) (by decide) dX4_init_140 (fun a16 => ?_)
  refine zn_putF (ty := tyX4 19) (ws' := [(h0, .inr (4, [.int 0, .ref a1, .ref a2, .ref a3, .ref a4, .ref a5, .ref a6, .ref a7, .ref a8, .ref a9, .int 1, .int 0, .int 1, .ref a10, .ref a11, .ref a12, .ref a13, .ref a14, .ref a15, .ref a16, .null, .null, .null, .null, .null, .null, .null, .null, .null, .null, .null, .null, .null, .null])), (a1, .inl (cI, 64, .inl (fun _ => 0))), (a2, .inl (cI, 64, .inl (fun _ => 0))), (a3, .inl (cI, 64, .inl (fun _ => 0))), (a4, .inl (cZ, 64, .inl (fun _ => 0))), (a5, .inl (cI, 64, .inl (fun _ => 0))), (a6, .inl (cI, 64, .inl (fun _ => 0))), (a7, .inl (cI, 64, .inl (fun _ => 0))), (a8, .inl (cI, 64, .inl (fun _ => 0))), (a9, .inl (cI, 16, .inl (fun _ => 0))), (a10, .inl (cI, 4, .inl (fun _ => 0))), (a11, .inl (cI, 4, .inl (fun _ => 0))), (a12, .inl (cI, 4, .inl (fun _ => 0))), (a13, .inl (cI, 4, .inl (fun _ => 0))), (a14, .inl (cI, 4, .inl (fun _ => 0))), (a15, .inl (cI, 4, .inl (fun _ => 0))), (a16, .inl (cI, 4, .inl (fun _ => 0)))]) C (fun w h => zw_in (zw_fX4 w h)) tyX4 tyX4_ok nmX4 0 rfl rfl 19 (by decide) (zw_in zl_fX4_69) rfl hnm rfl (by decide +kernel) rfl rfl (Nat.le_of_ble_eq_true rfl) rfl dX4_init_142 ?_
  refine zn_aload_n C dX4_init_145 rfl (j := 0) rfl ?_
  refine zn_bipush (v := 64) C dX4_init_146 rfl ?_
  refine zn_newa (atype := .int) (ty := .int) (N := 64) (a0 := (64, .inl (fun _ => 0))) C (zw_in zl_aint) rfl 0 rfl (fun _ => rfl) (by decide) (by decide) (by decide) (by decide) (by decide) dX4_init_148 (fun a17 => ?_)
  refine zn_putF (ty := tyX4 20) (ws' := [(h0, .inr (4, [.int 0, .ref a1, .ref a2, .ref a3, .ref a4, .ref a5, .ref a6, .ref a7, .ref a8, .ref a9, .int 1, .int 0, .int 1, .ref a10, .ref a11, .ref a12, .ref a13, .ref a14, .ref a15, .ref a16, .ref a17, .null, .null, .null, .null, .null, .null, .null, .null, .null, .null, .null, .null, .null])), (a1, .inl (cI, 64, .inl (fun _ => 0))), (a2, .inl (cI, 64, .inl (fun _ => 0))), (a3, .inl (cI, 64, .inl (fun _ => 0))), (a4, .inl (cZ, 64, .inl (fun _ => 0))), (a5, .inl (cI, 64, .inl (fun _ => 0))), (a6, .inl (cI, 64, .inl (fun _ => 0))), (a7, .inl (cI, 64, .inl (fun _ => 0))), (a8, .inl (cI, 64, .inl (fun _ => 0))), (a9, .inl (cI, 16, .inl (fun _ => 0))), (a10, .inl (cI, 4, .inl (fun _ => 0))), (a11, .inl (cI, 4, .inl (fun _ => 0))), (a12, .inl (cI, 4, .inl (fun _ => 0))), (a13, .inl (cI, 4, .inl (fun _ => 0))), (a14, .inl (cI, 4, .inl (fun _ => 0))), (a15, .inl (cI, 4, .inl (fun _ => 0))), (a16, .inl (cI, 4, .inl (fun _ => 0))), (a17, .inl (cI, 64, .inl (fun _ => 0)))]) C (fun w h => zw_in (zw_fX4 w h)) tyX4 tyX4_ok nmX4 0 rfl rfl 20 (by decide) (zw_in zl_fX4_72) rfl hnm rfl (by decide +kernel) rfl rfl (Nat.le_of_ble_eq_true rfl) rfl dX4_init_150 ?_
  refine zn_aload_n C dX4_init_153 rfl (j := 0) rfl ?_
  refine zn_iconst (v := 4) C dX4_init_154 rfl ?_
  refine zn_newa (atype := .int) (ty := .int) (N := 4) (a0 := (4, .inl (fun _ => 0))) C (zw_in zl_aint) rfl 0 rfl (fun _ => rfl) (by decide) (by decide) (by decide) (by decide) (by decide) dX4_init_155 (fun a18 => ?_)
  refine zn_putF (ty := tyX4 21) (ws' := [(h0, .inr (4, [.int 0, .ref a1, .ref a2, .ref a3, .ref a4, .ref a5, .ref a6, .ref a7, .ref a8, .ref a9, .int 1, .int 0, .int 1, .ref a10, .ref a11, .ref a12, .ref a13, .ref a14, .ref a15, .ref a16, .ref a17, .ref a18, .null, .null, .null, .null, .null, .null, .null, .null, .null, .null, .null, .null])), (a1, .inl (cI, 64, .inl (fun _ => 0))), (a2, .inl (cI, 64, .inl (fun _ => 0))), (a3, .inl (cI, 64, .inl (fun _ => 0))), (a4, .inl (cZ, 64, .inl (fun _ => 0))), (a5, .inl (cI, 64, .inl (fun _ => 0))), (a6, .inl (cI, 64, .inl (fun _ => 0))), (a7, .inl (cI, 64, .inl (fun _ => 0))), (a8, .inl (cI, 64, .inl (fun _ => 0))), (a9, .inl (cI, 16, .inl (fun _ => 0))), (a10, .inl (cI, 4, .inl (fun _ => 0))), (a11, .inl (cI, 4, .inl (fun _ => 0))), (a12, .inl (cI, 4, .inl (fun _ => 0))), (a13, .inl (cI, 4, .inl (fun _ => 0))), (a14, .inl (cI, 4, .inl (fun _ => 0))), (a15, .inl (cI, 4, .inl (fun _ => 0))), (a16, .inl (cI, 4, .inl (fun _ => 0))), (a17, .inl (cI, 64, .inl (fun _ => 0))), (a18, .inl (cI, 4, .inl (fun _ => 0)))]) C (fun w h => zw_in (zw_fX4 w h)) tyX4 tyX4_ok nmX4 0 rfl rfl 21 (by decide) (zw_in zl_fX4_75) rfl hnm rfl (by decide +kernel) rfl rfl (Nat.le_of_ble_eq_true rfl) rfl dX4_init_157 ?_
  refine zn_aload_n C dX4_init_160 rfl (j := 0) rfl ?_
  refine zn_iconst (v := 4) C dX4_init_161 rfl ?_
  refine zn_newa (atype := .int) (ty := .int) (N := 4) (a0 := (4, .inl (fun _ => 0))) C (zw_in zl_aint) rfl 0 rfl (fun _ => rfl) (by decide) (by decide) (by decide) (by decide) (by decide) dX4_init_162 (fun a19 => ?_)
  refine zn_putF (ty := tyX4 22) (ws' := [(h0, .inr (4, [.int 0, .ref a1, .ref a2, .ref a3, .ref a4, .ref a5, .ref a6, .ref a7, .ref a8, .ref a9, .int 1, .int 0, .int 1, .ref a10, .ref a11, .ref a12, .ref a13, .ref a14, .ref a15, .ref a16, .ref a17, .ref a18, .ref a19, .null, .null, .null, .null, .null, .null, .null, .null, .null, .null, .null])), (a1, .inl (cI, 64, .inl (fun _ => 0))), (a2, .inl (cI, 64, .inl (fun _ => 0))), (a3, .inl (cI, 64, .inl (fun _ => 0))), (a4, .inl (cZ, 64, .inl (fun _ => 0))), (a5, .inl (cI, 64, .inl (fun _ => 0))), (a6, .inl (cI, 64, .inl (fun _ => 0))), (a7, .inl (cI, 64, .inl (fun _ => 0))), (a8, .inl (cI, 64, .inl (fun _ => 0))), (a9, .inl (cI, 16, .inl (fun _ => 0))), (a10, .inl (cI, 4, .inl (fun _ => 0))), (a11, .inl (cI, 4, .inl (fun _ => 0))), (a12, .inl (cI, 4, .inl (fun _ => 0))), (a13, .inl (cI, 4, .inl (fun _ => 0))), (a14, .inl (cI, 4, .inl (fun _ => 0))), (a15, .inl (cI, 4, .inl (fun _ => 0))), (a16, .inl (cI, 4, .inl (fun _ => 0))), (a17, .inl (cI, 64, .inl (fun _ => 0))), (a18, .inl (cI, 4, .inl (fun _ => 0))), (a19, .inl (cI, 4, .inl (fun _ => 0)))]) C (fun w h => zw_in (zw_fX4 w h)) tyX4 tyX4_ok nmX4 0 rfl rfl 22 (by decide) (zw_in zl_fX4_78) rfl hnm rfl (by decide +kernel) rfl rfl (Nat.le_of_ble_eq_true rfl) rfl dX4_init_164 ?_
  refine zn_aload_n C dX4_init_167 rfl (j := 0) rfl ?_
  refine zn_iconst (v := 4) C dX4_init_168 rfl ?_
  refine zn_newa (atype := .int) (ty := .int) (N := 4) (a0 := (4, .inl (fun _ => 0))) C (zw_in zl_aint) rfl 0 rfl (fun _ => rfl) (by decide) (by decide) (by decide) (by decide) (by decide) dX4_init_169 (fun a20 => ?_)
  refine zn_putF (ty := tyX4 23) (ws' := [(h0, .inr (4, [.int 0, .ref a1, .ref a2, .ref a3, .ref a4, .ref a5, .ref a6, .ref a7, .ref a8, .ref a9, .int 1, .int 0, .int 1, .ref a10, .ref a11, .ref a12, .ref a13, .ref a14, .ref a15, .ref a16, .ref a17, .ref a18, .ref a19, .ref a20, .null, .null, .null, .null, .null, .null, .null, .null, .null, .null])), (a1, .inl (cI, 64, .inl (fun _ => 0))), (a2, .inl (cI, 64, .inl (fun _ => 0))), (a3, .inl (cI, 64, .inl (fun _ => 0))), (a4, .inl (cZ, 64, .inl (fun _ => 0))), (a5, .inl (cI, 64, .inl (fun _ => 0))), (a6, .inl (cI, 64, .inl (fun _ => 0))), (a7, .inl (cI, 64, .inl (fun _ => 0))), (a8, .inl (cI, 64, .inl (fun _ => 0))), (a9, .inl (cI, 16, .inl (fun _ => 0))), (a10, .inl (cI, 4, .inl (fun _ => 0))), (a11, .inl (cI, 4, .inl (fun _ => 0))), (a12, .inl (cI, 4, .inl (fun _ => 0))), (a13, .inl (cI, 4, .inl (fun _ => 0))), (a14, .inl (cI, 4, .inl (fun _ => 0))), (a15, .inl (cI, 4, .inl (fun _ => 0))), (a16, .inl (cI, 4, .inl (fun _ => 0))), (a17, .inl (cI, 64, .inl (fun _ => 0))), (a18, .inl (cI, 4, .inl (fun _ => 0))), (a19, .inl (cI, 4, .inl (fun _ => 0))), (a20, .inl (cI, 4, .inl (fun _ => 0)))]) C (fun w h => zw_in (zw_fX4 w h)) tyX4 tyX4_ok nmX4 0 rfl rfl 23 (by decide) (zw_in zl_fX4_81) rfl hnm rfl (by decide +kernel) rfl rfl (Nat.le_of_ble_eq_true rfl) rfl dX4_init_171 ?_
  refine zn_aload_n C dX4_init_174 rfl (j := 0) rfl ?_
  refine zn_iconst (v := 4) C dX4_init_175 rfl ?_
  refine zn_newa (atype := .int) (ty := .int) (N := 4) (a0 := (4, .inl (fun _ => 0))) C (zw_in zl_aint) rfl 0 rfl (fun _ => rfl) (by decide) (by decide) (by decide) (by decide) (by decide) dX4_init_176 (fun a21 => ?_)
  refine zn_putF (ty := tyX4 24) (ws' := [(h0, .inr (4, [.int 0, .ref a1, .ref a2, .ref a3, .ref a4, .ref a5, .ref a6, .ref a7, .ref a8, .ref a9, .int 1, .int 0, .int 1, .ref a10, .ref a11, .ref a12, .ref a13, .ref a14, .ref a15, .ref a16, .ref a17, .ref a18, .ref a19, .ref a20, .ref a21, .null, .null, .null, .null, .null, .null, .null, .null, .null])), (a1, .inl (cI, 64, .inl (fun _ => 0))), (a2, .inl (cI, 64, .inl (fun _ => 0))), (a3, .inl (cI, 64, .inl (fun _ => 0))), (a4, .inl (cZ, 64, .inl (fun _ => 0))), (a5, .inl (cI, 64, .inl (fun _ => 0))), (a6, .inl (cI, 64, .inl (fun _ => 0))), (a7, .inl (cI, 64, .inl (fun _ => 0))), (a8, .inl (cI, 64, .inl (fun _ => 0))), (a9, .inl (cI, 16, .inl (fun _ => 0))), (a10, .inl (cI, 4, .inl (fun _ => 0))), (a11, .inl (cI, 4, .inl (fun _ => 0))), (a12, .inl (cI, 4, .inl (fun _ => 0))), (a13, .inl (cI, 4, .inl (fun _ => 0))), (a14, .inl (cI, 4, .inl (fun _ => 0))), (a15, .inl (cI, 4, .inl (fun _ => 0))), (a16, .inl (cI, 4, .inl (fun _ => 0))), (a17, .inl (cI, 64, .inl (fun _ => 0))), (a18, .inl (cI, 4, .inl (fun _ => 0))), (a19, .inl (cI, 4, .inl (fun _ => 0))), (a20, .inl (cI, 4, .inl (fun _ => 0))), (a21, .inl (cI, 4, .inl (fun _ => 0)))]) C (fun w h => zw_in (zw_fX4 w h)) tyX4 tyX4_ok nmX4 0 rfl rfl 24 (by decide) (zw_in zl_fX4_84) rfl hnm rfl (by decide +kernel) rfl rfl (Nat.le_of_ble_eq_true rfl) rfl dX4_init_178 ?_
  refine zn_aload_n C dX4_init_181 rfl (j := 0) rfl ?_
  refine zn_iconst (v := 4) C dX4_init_182 rfl ?_
  refine zn_newa (atype := .int) (ty := .int) (N := 4) (a0 := (4, .inl (fun _ => 0))) C (zw_in zl_aint) rfl 0 rfl (fun _ => rfl) (by decide) (by decide) (by decide) (by decide) (by decide) dX4_init_183 (fun a22 => ?_)
  refine zn_putF (ty := tyX4 25) (ws' := [(h0, .inr (4, [.int 0, .ref a1, .ref a2, .ref a3, .ref a4, .ref a5, .ref a6, .ref a7, .ref a8, .ref a9, .int 1, .int 0, .int 1, .ref a10, .ref a11, .ref a12, .ref a13, .ref a14, .ref a15, .ref a16, .ref a17, .ref a18, .ref a19, .ref a20, .ref a21, .ref a22, .null, .null, .null, .null, .null, .null, .null, .null])), (a1, .inl (cI, 64, .inl (fun _ => 0))), (a2, .inl (cI, 64, .inl (fun _ => 0))), (a3, .inl (cI, 64, .inl (fun _ => 0))), (a4, .inl (cZ, 64, .inl (fun _ => 0))), (a5, .inl (cI, 64, .inl (fun _ => 0))), (a6, .inl (cI, 64, .inl (fun _ => 0))), (a7, .inl (cI, 64, .inl (fun _ => 0))), (a8, .inl (cI, 64, .inl (fun _ => 0))), (a9, .inl (cI, 16, .inl (fun _ => 0))), (a10, .inl (cI, 4, .inl (fun _ => 0))), (a11, .inl (cI, 4, .inl (fun _ => 0))), (a12, .inl (cI, 4, .inl (fun _ => 0))), (a13, .inl (cI, 4, .inl (fun _ => 0))), (a14, .inl (cI, 4, .inl (fun _ => 0))), (a15, .inl (cI, 4, .inl (fun _ => 0))), (a16, .inl (cI, 4, .inl (fun _ => 0))), (a17, .inl (cI, 64, .inl (fun _ => 0))), (a18, .inl (cI, 4, .inl (fun _ => 0))), (a19, .inl (cI, 4, .inl (fun _ => 0))), (a20, .inl (cI, 4, .inl (fun _ => 0))), (a21, .inl (cI, 4, .inl (fun _ => 0))), (a22, .inl (cI, 4, .inl (fun _ => 0)))]) C (fun w h => zw_in (zw_fX4 w h)) tyX4 tyX4_ok nmX4 0 rfl rfl 25 (by decide) (zw_in zl_fX4_87) rfl hnm rfl (by decide +kernel) rfl rfl (Nat.le_of_ble_eq_true rfl) rfl dX4_init_185 ?_
  refine zn_aload_n C dX4_init_188 rfl (j := 0) rfl ?_
  refine zn_iconst (v := 4) C dX4_init_189 rfl ?_
  refine zn_newa (atype := .boolean) (ty := .boolean) (N := 4) (a0 := (4, .inl (fun _ => 0))) C (zw_in zl_aboolean) rfl 3 rfl (fun _ => rfl) (by decide) (by decide) (by decide) (by decide) (by decide) dX4_init_190 (fun a23 => ?_)
  refine zn_putF (ty := tyX4 26) (ws' := [(h0, .inr (4, [.int 0, .ref a1, .ref a2, .ref a3, .ref a4, .ref a5, .ref a6, .ref a7, .ref a8, .ref a9, .int 1, .int 0, .int 1, .ref a10, .ref a11, .ref a12, .ref a13, .ref a14, .ref a15, .ref a16, .ref a17, .ref a18, .ref a19, .ref a20, .ref a21, .ref a22, .ref a23, .null, .null, .null, .null, .null, .null, .null])), (a1, .inl (cI, 64, .inl (fun _ => 0))), (a2, .inl (cI, 64, .inl (fun _ => 0))), (a3, .inl (cI, 64, .inl (fun _ => 0))), (a4, .inl (cZ, 64, .inl (fun _ => 0))), (a5, .inl (cI, 64, .inl (fun _ => 0))), (a6, .inl (cI, 64, .inl (fun _ => 0))), (a7, .inl (cI, 64, .inl (fun _ => 0))), (a8, .inl (cI, 64, .inl (fun _ => 0))), (a9, .inl (cI, 16, .inl (fun _ => 0))), (a10, .inl (cI, 4, .inl (fun _ => 0))), (a11, .inl (cI, 4, .inl (fun _ => 0))), (a12, .inl (cI, 4, .inl (fun _ => 0))), (a13, .inl (cI, 4, .inl (fun _ => 0))), (a14, .inl (cI, 4, .inl (fun _ => 0))), (a15, .inl (cI, 4, .inl (fun _ => 0))), (a16, .inl (cI, 4, .inl (fun _ => 0))), (a17, .inl (cI, 64, .inl (fun _ => 0))), (a18, .inl (cI, 4, .inl (fun _ => 0))), (a19, .inl (cI, 4, .inl (fun _ => 0))), (a20, .inl (cI, 4, .inl (fun _ => 0))), (a21, .inl (cI, 4, .inl (fun _ => 0))), (a22, .inl (cI, 4, .inl (fun _ => 0))), (a23, .inl (cZ, 4, .inl (fun _ => 0)))]) C (fun w h => zw_in (zw_fX4 w h)) tyX4 tyX4_ok nmX4 0 rfl rfl 26 (by decide) (zw_in zl_fX4_90) rfl hnm rfl (by decide +kernel) rfl rfl (Nat.le_of_ble_eq_true rfl) rfl dX4_init_192 ?_
  refine zn_aload_n C dX4_init_195 rfl (j := 0) rfl ?_
  refine zn_iconst (v := 4) C dX4_init_196 rfl ?_
  refine zn_newa (atype := .int) (ty := .int) (N := 4) (a0 := (4, .inl (fun _ => 0))) C (zw_in zl_aint) rfl 0 rfl (fun _ => rfl) (by decide) (by decide) (by decide) (by decide) (by decide) dX4_init_197 (fun a24 => ?_)
  refine zn_putF (ty := tyX4 27) (ws' := [(h0, .inr (4, [.int 0, .ref a1, .ref a2, .ref a3, .ref a4, .ref a5, .ref a6, .ref a7, .ref a8, .ref a9, .int 1, .int 0, .int 1, .ref a10, .ref a11, .ref a12, .ref a13, .ref a14, .ref a15, .ref a16, .ref a17, .ref a18, .ref a19, .ref a20, .ref a21, .ref a22, .ref a23, .ref a24, .null, .null, .null, .null, .null, .null])), (a1, .inl (cI, 64, .inl (fun _ => 0))), (a2, .inl (cI, 64, .inl (fun _ => 0))), (a3, .inl (cI, 64, .inl (fun _ => 0))), (a4, .inl (cZ, 64, .inl (fun _ => 0))), (a5, .inl (cI, 64, .inl (fun _ => 0))), (a6, .inl (cI, 64, .inl (fun _ => 0))), (a7, .inl (cI, 64, .inl (fun _ => 0))), (a8, .inl (cI, 64, .inl (fun _ => 0))), (a9, .inl (cI, 16, .inl (fun _ => 0))), (a10, .inl (cI, 4, .inl (fun _ => 0))), (a11, .inl (cI, 4, .inl (fun _ => 0))), (a12, .inl (cI, 4, .inl (fun _ => 0))), (a13, .inl (cI, 4, .inl (fun _ => 0))), (a14, .inl (cI, 4, .inl (fun _ => 0))), (a15, .inl (cI, 4, .inl (fun _ => 0))), (a16, .inl (cI, 4, .inl (fun _ => 0))), (a17, .inl (cI, 64, .inl (fun _ => 0))), (a18, .inl (cI, 4, .inl (fun _ => 0))), (a19, .inl (cI, 4, .inl (fun _ => 0))), (a20, .inl (cI, 4, .inl (fun _ => 0))), (a21, .inl (cI, 4, .inl (fun _ => 0))), (a22, .inl (cI, 4, .inl (fun _ => 0))), (a23, .inl (cZ, 4, .inl (fun _ => 0))), (a24, .inl (cI, 4, .inl (fun _ => 0)))]) C (fun w h => zw_in (zw_fX4 w h)) tyX4 tyX4_ok nmX4 0 rfl rfl 27 (by decide) (zw_in zl_fX4_93) rfl hnm rfl (by decide +kernel) rfl rfl (Nat.le_of_ble_eq_true rfl) rfl dX4_init_199 ?_
  refine zn_aload_n C dX4_init_202 rfl (j := 0) rfl ?_
  refine zn_iconst (v := 4) C dX4_init_203 rfl ?_
  refine zn_newa (atype := .int) (ty := .int) (N := 4) (a0 := (4, .inl (fun _ => 0))) C (zw_in zl_aint) rfl 0 rfl (fun _ => rfl) (by decide) (by decide) (by decide) (by decide) (by decide) dX4_init_204 (fun a25 => ?_)
  refine zn_putF (ty := tyX4 28) (ws' := [(h0, .inr (4, [.int 0, .ref a1, .ref a2, .ref a3, .ref a4, .ref a5, .ref a6, .ref a7, .ref a8, .ref a9, .int 1, .int 0, .int 1, .ref a10, .ref a11, .ref a12, .ref a13, .ref a14, .ref a15, .ref a16, .ref a17, .ref a18, .ref a19, .ref a20, .ref a21, .ref a22, .ref a23, .ref a24, .ref a25, .null, .null, .null, .null, .null])), (a1, .inl (cI, 64, .inl (fun _ => 0))), (a2, .inl (cI, 64, .inl (fun _ => 0))), (a3, .inl (cI, 64, .inl (fun _ => 0))), (a4, .inl (cZ, 64, .inl (fun _ => 0))), (a5, .inl (cI, 64, .inl (fun _ => 0))), (a6, .inl (cI, 64, .inl (fun _ => 0))), (a7, .inl (cI, 64, .inl (fun _ => 0))), (a8, .inl (cI, 64, .inl (fun _ => 0))), (a9, .inl (cI, 16, .inl (fun _ => 0))), (a10, .inl (cI, 4, .inl (fun _ => 0))), (a11, .inl (cI, 4, .inl (fun _ => 0))), (a12, .inl (cI, 4, .inl (fun _ => 0))), (a13, .inl (cI, 4, .inl (fun _ => 0))), (a14, .inl (cI, 4, .inl (fun _ => 0))), (a15, .inl (cI, 4, .inl (fun _ => 0))), (a16, .inl (cI, 4, .inl (fun _ => 0))), (a17, .inl (cI, 64, .inl (fun _ => 0))), (a18, .inl (cI, 4, .inl (fun _ => 0))), (a19, .inl (cI, 4, .inl (fun _ => 0))), (a20, .inl (cI, 4, .inl (fun _ => 0))), (a21, .inl (cI, 4, .inl (fun _ => 0))), (a22, .inl (cI, 4, .inl (fun _ => 0))), (a23, .inl (cZ, 4, .inl (fun _ => 0))), (a24, .inl (cI, 4, .inl (fun _ => 0))), (a25, .inl (cI, 4, .inl (fun _ => 0)))]) C (fun w h => zw_in (zw_fX4 w h)) tyX4 tyX4_ok nmX4 0 rfl rfl 28 (by decide) (zw_in zl_fX4_96) rfl hnm rfl (by decide +kernel) rfl rfl (Nat.le_of_ble_eq_true rfl) rfl dX4_init_206 ?_
  refine zn_aload_n C dX4_init_209 rfl (j := 0) rfl ?_
  refine zn_iconst (v := 4) C dX4_init_210 rfl ?_
  refine zn_newa (atype := .boolean) (ty := .boolean) (N := 4) (a0 := (4, .inl (fun _ => 0))) C (zw_in zl_aboolean) rfl 3 rfl (fun _ => rfl) (by decide) (by decide) (by decide) (by decide) (by decide) dX4_init_211 (fun a26 => ?_)
  refine zn_putF (ty := tyX4 29) (ws' := [(h0, .inr (4, [.int 0, .ref a1, .ref a2, .ref a3, .ref a4, .ref a5, .ref a6, .ref a7, .ref a8, .ref a9, .int 1, .int 0, .int 1, .ref a10, .ref a11, .ref a12, .ref a13, .ref a14, .ref a15, .ref a16, .ref a17, .ref a18, .ref a19, .ref a20, .ref a21, .ref a22, .ref a23, .ref a24, .ref a25, .ref a26, .null, .null, .null, .null])), (a1, .inl (cI, 64, .inl (fun _ => 0))), (a2, .inl (cI, 64, .inl (fun _ => 0))), (a3, .inl (cI, 64, .inl (fun _ => 0))), (a4, .inl (cZ, 64, .inl (fun _ => 0))), (a5, .inl (cI, 64, .inl (fun _ => 0))), (a6, .inl (cI, 64, .inl (fun _ => 0))), (a7, .inl (cI, 64, .inl (fun _ => 0))), (a8, .inl (cI, 64, .inl (fun _ => 0))), (a9, .inl (cI, 16, .inl (fun _ => 0))), (a10, .inl (cI, 4, .inl (fun _ => 0))), (a11, .inl (cI, 4, .inl (fun _ => 0))), (a12, .inl (cI, 4, .inl (fun _ => 0))), (a13, .inl (cI, 4, .inl (fun _ => 0))), (a14, .inl (cI, 4, .inl (fun _ => 0))), (a15, .inl (cI, 4, .inl (fun _ => 0))), (a16, .inl (cI, 4, .inl (fun _ => 0))), (a17, .inl (cI, 64, .inl (fun _ => 0))), (a18, .inl (cI, 4, .inl (fun _ => 0))), (a19, .inl (cI, 4, .inl (fun _ => 0))), (a20, .inl (cI, 4, .inl (fun _ => 0))), (a21, .inl (cI, 4, .inl (fun _ => 0))), (a22, .inl (cI, 4, .inl (fun _ => 0))), (a23, .inl (cZ, 4, .inl (fun _ => 0))), (a24, .inl (cI, 4, .inl (fun _ => 0))), (a25, .inl (cI, 4, .inl (fun _ => 0))), (a26, .inl (cZ, 4, .inl (fun _ => 0)))]) C (fun w h => zw_in (zw_fX4 w h)) tyX4 tyX4_ok nmX4 0 rfl rfl 29 (by decide) (zw_in zl_fX4_99) rfl hnm rfl (by decide +kernel) rfl rfl (Nat.le_of_ble_eq_true rfl) rfl dX4_init_213 ?_
  refine zn_aload_n C dX4_init_216 rfl (j := 0) rfl ?_
  refine zn_iconst (v := 4) C dX4_init_217 rfl ?_
  refine zn_newa (atype := .int) (ty := .int) (N := 4) (a0 := (4, .inl (fun _ => 0))) C (zw_in zl_aint) rfl 0 rfl (fun _ => rfl) (by decide) (by decide) (by decide) (by decide) (by decide) dX4_init_218 (fun a27 => ?_)
  refine zn_putF (ty := tyX4 30) (ws' := [(h0, .inr (4, [.int 0, .ref a1, .ref a2, .ref a3, .ref a4, .ref a5, .ref a6, .ref a7, .ref a8, .ref a9, .int 1, .int 0, .int 1, .ref a10, .ref a11, .ref a12, .ref a13, .ref a14, .ref a15, .ref a16, .ref a17, .ref a18, .ref a19, .ref a20, .ref a21, .ref a22, .ref a23, .ref a24, .ref a25, .ref a26, .ref a27, .null, .null, .null])), (a1, .inl (cI, 64, .inl (fun _ => 0))), (a2, .inl (cI, 64, .inl (fun _ => 0))), (a3, .inl (cI, 64, .inl (fun _ => 0))), (a4, .inl (cZ, 64, .inl (fun _ => 0))), (a5, .inl (cI, 64, .inl (fun _ => 0))), (a6, .inl (cI, 64, .inl (fun _ => 0))), (a7, .inl (cI, 64, .inl (fun _ => 0))), (a8, .inl (cI, 64, .inl (fun _ => 0))), (a9, .inl (cI, 16, .inl (fun _ => 0))), (a10, .inl (cI, 4, .inl (fun _ => 0))), (a11, .inl (cI, 4, .inl (fun _ => 0))), (a12, .inl (cI, 4, .inl (fun _ => 0))), (a13, .inl (cI, 4, .inl (fun _ => 0))), (a14, .inl (cI, 4, .inl (fun _ => 0))), (a15, .inl (cI, 4, .inl (fun _ => 0))), (a16, .inl (cI, 4, .inl (fun _ => 0))), (a17, .inl (cI, 64, .inl (fun _ => 0))), (a18, .inl (cI, 4, .inl (fun _ => 0))), (a19, .inl (cI, 4, .inl (fun _ => 0))), (a20, .inl (cI, 4, .inl (fun _ => 0))), (a21, .inl (cI, 4, .inl (fun _ => 0))), (a22, .inl (cI, 4, .inl (fun _ => 0))), (a23, .inl (cZ, 4, .inl (fun _ => 0))), (a24, .inl (cI, 4, .inl (fun _ => 0))), (a25, .inl (cI, 4, .inl (fun _ => 0))), (a26, .inl (cZ, 4, .inl (fun _ => 0))), (a27, .inl (cI, 4, .inl (fun _ => 0)))]) C (fun w h => zw_in (zw_fX4 w h)) tyX4 tyX4_ok nmX4 0 rfl rfl 30 (by decide) (zw_in zl_fX4_102) rfl hnm rfl (by decide +kernel) rfl rfl (Nat.le_of_ble_eq_true rfl) rfl dX4_init_220 ?_
  refine zn_aload_n C dX4_init_223 rfl (j := 0) rfl ?_
  refine zn_sipush (v := 256) C dX4_init_224 rfl ?_
  refine zn_newa (atype := .int) (ty := .int) (N := 256) (a0 := (256, .inl (fun _ => 0))) C (zw_in zl_aint) rfl 0 rfl (fun _ => rfl) (by decide) (by decide) (by decide) (by decide) (by decide) dX4_init_227 (fun a28 => ?_)
  refine zn_putF (ty := tyX4 31) (ws' := [(h0, .inr (4, [.int 0, .ref a1, .ref a2, .ref a3, .ref a4, .ref a5, .ref a6, .ref a7, .ref a8, .ref a9, .int 1, .int 0, .int 1, .ref a10, .ref a11, .ref a12, .ref a13, .ref a14, .ref a15, .ref a16, .ref a17, .ref a18, .ref a19, .ref a20, .ref a21, .ref a22, .ref a23, .ref a24, .ref a25, .ref a26, .ref a27, .ref a28, .null, .null])), (a1, .inl (cI, 64, .inl (fun _ => 0))), (a2, .inl (cI, 64, .inl (fun _ => 0))), (a3, .inl (cI, 64, .inl (fun _ => 0))), (a4, .inl (cZ, 64, .inl (fun _ => 0))), (a5, .inl (cI, 64, .inl (fun _ => 0))), (a6, .inl (cI, 64, .inl (fun _ => 0))), (a7, .inl (cI, 64, .inl (fun _ => 0))), (a8, .inl (cI, 64, .inl (fun _ => 0))), (a9, .inl (cI, 16, .inl (fun _ => 0))), (a10, .inl (cI, 4, .inl (fun _ => 0))), (a11, .inl (cI, 4, .inl (fun _ => 0))), (a12, .inl (cI, 4, .inl (fun _ => 0))), (a13, .inl (cI, 4, .inl (fun _ => 0))), (a14, .inl (cI, 4, .inl (fun _ => 0))), (a15, .inl (cI, 4, .inl (fun _ => 0))), (a16, .inl (cI, 4, .inl (fun _ => 0))), (a17, .inl (cI, 64, .inl (fun _ => 0))), (a18, .inl (cI, 4, .inl (fun _ => 0))), (a19, .inl (cI, 4, .inl (fun _ => 0))), (a20, .inl (cI, 4, .inl (fun _ => 0))), (a21, .inl (cI, 4, .inl (fun _ => 0))), (a22, .inl (cI, 4, .inl (fun _ => 0))), (a23, .inl (cZ, 4, .inl (fun _ => 0))), (a24, .inl (cI, 4, .inl (fun _ => 0))), (a25, .inl (cI, 4, .inl (fun _ => 0))), (a26, .inl (cZ, 4, .inl (fun _ => 0))), (a27, .inl (cI, 4, .inl (fun _ => 0))), (a28, .inl (cI, 256, .inl (fun _ => 0)))]) C (fun w h => zw_in (zw_fX4 w h)) tyX4 tyX4_ok nmX4 0 rfl rfl 31 (by decide) (zw_in zl_fX4_105) rfl hnm rfl (by decide +kernel) rfl rfl (Nat.le_of_ble_eq_true rfl) rfl dX4_init_229 ?_
  refine zn_aload_n C dX4_init_232 rfl (j := 0) rfl ?_
  refine zn_iconst (v := 4) C dX4_init_233 rfl ?_
  refine zn_newa (atype := .int) (ty := .int) (N := 4) (a0 := (4, .inl (fun _ => 0))) C (zw_in zl_aint) rfl 0 rfl (fun _ => rfl) (by decide) (by decide) (by decide) (by decide) (by decide) dX4_init_234 (fun a29 => ?_)
  refine zn_putF (ty := tyX4 32) (ws' := [(h0, .inr (4, [.int 0, .ref a1, .ref a2, .ref a3, .ref a4, .ref a5, .ref a6, .ref a7, .ref a8, .ref a9, .int 1, .int 0, .int 1, .ref a10, .ref a11, .ref a12, .ref a13, .ref a14, .ref a15, .ref a16, .ref a17, .ref a18, .ref a19, .ref a20, .ref a21, .ref a22, .ref a23, .ref a24, .ref a25, .ref a26, .ref a27, .ref a28, .ref a29, .null])), (a1, .inl (cI, 64, .inl (fun _ => 0))), (a2, .inl (cI, 64, .inl (fun _ => 0))), (a3, .inl (cI, 64, .inl (fun _ => 0))), (a4, .inl (cZ, 64, .inl (fun _ => 0))), (a5, .inl (cI, 64, .inl (fun _ => 0))), (a6, .inl (cI, 64, .inl (fun _ => 0))), (a7, .inl (cI, 64, .inl (fun _ => 0))), (a8, .inl (cI, 64, .inl (fun _ => 0))), (a9, .inl (cI, 16, .inl (fun _ => 0))), (a10, .inl (cI, 4, .inl (fun _ => 0))), (a11, .inl (cI, 4, .inl (fun _ => 0))), (a12, .inl (cI, 4, .inl (fun _ => 0))), (a13, .inl (cI, 4, .inl (fun _ => 0))), (a14, .inl (cI, 4, .inl (fun _ => 0))), (a15, .inl (cI, 4, .inl (fun _ => 0))), (a16, .inl (cI, 4, .inl (fun _ => 0))), (a17, .inl (cI, 64, .inl (fun _ => 0))), (a18, .inl (cI, 4, .inl (fun _ => 0))), (a19, .inl (cI, 4, .inl (fun _ => 0))), (a20, .inl (cI, 4, .inl (fun _ => 0))), (a21, .inl (cI, 4, .inl (fun _ => 0))), (a22, .inl (cI, 4, .inl (fun _ => 0))), (a23, .inl (cZ, 4, .inl (fun _ => 0))), (a24, .inl (cI, 4, .inl (fun _ => 0))), (a25, .inl (cI, 4, .inl (fun _ => 0))), (a26, .inl (cZ, 4, .inl (fun _ => 0))), (a27, .inl (cI, 4, .inl (fun _ => 0))), (a28, .inl (cI, 256, .inl (fun _ => 0))), (a29, .inl (cI, 4, .inl (fun _ => 0)))]) C (fun w h => zw_in (zw_fX4 w h)) tyX4 tyX4_ok nmX4 0 rfl rfl 32 (by decide) (zw_in zl_fX4_108) rfl hnm rfl (by decide +kernel) rfl rfl (Nat.le_of_ble_eq_true rfl) rfl dX4_init_236 ?_
  refine zn_aload_n C dX4_init_239 rfl (j := 0) rfl ?_
  refine zn_iconst (v := 4) C dX4_init_240 rfl ?_
  refine zn_newa (atype := .int) (ty := .int) (N := 4) (a0 := (4, .inl (fun _ => 0))) C (zw_in zl_aint) rfl 0 rfl (fun _ => rfl) (by decide) (by decide) (by decide) (by decide) (by decide) dX4_init_241 (fun a30 => ?_)
  refine zn_putF (ty := tyX4 33) (ws' := [(h0, .inr (4, [.int 0, .ref a1, .ref a2, .ref a3, .ref a4, .ref a5, .ref a6, .ref a7, .ref a8, .ref a9, .int 1, .int 0, .int 1, .ref a10, .ref a11, .ref a12, .ref a13, .ref a14, .ref a15, .ref a16, .ref a17, .ref a18, .ref a19, .ref a20, .ref a21, .ref a22, .ref a23, .ref a24, .ref a25, .ref a26, .ref a27, .ref a28, .ref a29, .ref a30])), (a1, .inl (cI, 64, .inl (fun _ => 0))), (a2, .inl (cI, 64, .inl (fun _ => 0))), (a3, .inl (cI, 64, .inl (fun _ => 0))), (a4, .inl (cZ, 64, .inl (fun _ => 0))), (a5, .inl (cI, 64, .inl (fun _ => 0))), (a6, .inl (cI, 64, .inl (fun _ => 0))), (a7, .inl (cI, 64, .inl (fun _ => 0))), (a8, .inl (cI, 64, .inl (fun _ => 0))), (a9, .inl (cI, 16, .inl (fun _ => 0))), (a10, .inl (cI, 4, .inl (fun _ => 0))), (a11, .inl (cI, 4, .inl (fun _ => 0))), (a12, .inl (cI, 4, .inl (fun _ => 0))), (a13, .inl (cI, 4, .inl (fun _ => 0))), (a14, .inl (cI, 4, .inl (fun _ => 0))), (a15, .inl (cI, 4, .inl (fun _ => 0))), (a16, .inl (cI, 4, .inl (fun _ => 0))), (a17, .inl (cI, 64, .inl (fun _ => 0))), (a18, .inl (cI, 4, .inl (fun _ => 0))), (a19, .inl (cI, 4, .inl (fun _ => 0))), (a20, .inl (cI, 4, .inl (fun _ => 0))), (a21, .inl (cI, 4, .inl (fun _ => 0))), (a22, .inl (cI, 4, .inl (fun _ => 0))), (a23, .inl (cZ, 4, .inl (fun _ => 0))), (a24, .inl (cI, 4, .inl (fun _ => 0))), (a25, .inl (cI, 4, .inl (fun _ => 0))), (a26, .inl (cZ, 4, .inl (fun _ => 0))), (a27, .inl (cI, 4, .inl (fun _ => 0))), (a28, .inl (cI, 256, .inl (fun _ => 0))), (a29, .inl (cI, 4, .inl (fun _ => 0))), (a30, .inl (cI, 4, .inl (fun _ => 0)))]) C (fun w h => zw_in (zw_fX4 w h)) tyX4 tyX4_ok nmX4 0 rfl rfl 33 (by decide) (zw_in zl_fX4_111) rfl hnm rfl (by decide +kernel) rfl rfl (Nat.le_of_ble_eq_true rfl) rfl dX4_init_243 ?_
  obtain ⟨am, ham⟩ : ∃ am : Nat → Nat, am = fun i => ([h0, a1, a2, a3, a4, a5, a6, a7, a8, a9, a10, a11, a12, a13, a14, a15, a16, a17, a18, a19, a20, a21, a22, a23, a24, a25, a26, a27, a28, a29, a30] : List Nat).getD i 0 := ⟨_, rfl⟩
  have hw : [(h0, .inr (4, [.int 0, .ref a1, .ref a2, .ref a3, .ref a4, .ref a5, .ref a6, .ref a7, .ref a8, .ref a9, .int 1, .int 0, .int 1, .ref a10, .ref a11, .ref a12, .ref a13, .ref a14, .ref a15, .ref a16, .ref a17, .ref a18, .ref a19, .ref a20, .ref a21, .ref a22, .ref a23, .ref a24, .ref a25, .ref a26, .ref a27, .ref a28, .ref a29, .ref a30])), (a1, .inl (cI, 64, .inl (fun _ => 0))), (a2, .inl (cI, 64, .inl (fun _ => 0))), (a3, .inl (cI, 64, .inl (fun _ => 0))), (a4, .inl (cZ, 64, .inl (fun _ => 0))), (a5, .inl (cI, 64, .inl (fun _ => 0))), (a6, .inl (cI, 64, .inl (fun _ => 0))), (a7, .inl (cI, 64, .inl (fun _ => 0))), (a8, .inl (cI, 64, .inl (fun _ => 0))), (a9, .inl (cI, 16, .inl (fun _ => 0))), (a10, .inl (cI, 4, .inl (fun _ => 0))), (a11, .inl (cI, 4, .inl (fun _ => 0))), (a12, .inl (cI, 4, .inl (fun _ => 0))), (a13, .inl (cI, 4, .inl (fun _ => 0))), (a14, .inl (cI, 4, .inl (fun _ => 0))), (a15, .inl (cI, 4, .inl (fun _ => 0))), (a16, .inl (cI, 4, .inl (fun _ => 0))), (a17, .inl (cI, 64, .inl (fun _ => 0))), (a18, .inl (cI, 4, .inl (fun _ => 0))), (a19, .inl (cI, 4, .inl (fun _ => 0))), (a20, .inl (cI, 4, .inl (fun _ => 0))), (a21, .inl (cI, 4, .inl (fun _ => 0))), (a22, .inl (cI, 4, .inl (fun _ => 0))), (a23, .inl (cZ, 4, .inl (fun _ => 0))), (a24, .inl (cI, 4, .inl (fun _ => 0))), (a25, .inl (cI, 4, .inl (fun _ => 0))), (a26, .inl (cZ, 4, .inl (fun _ => 0))), (a27, .inl (cI, 4, .inl (fun _ => 0))), (a28, .inl (cI, 256, .inl (fun _ => 0))), (a29, .inl (cI, 4, .inl (fun _ => 0))), (a30, .inl (cI, 4, .inl (fun _ => 0)))] = zs_wl 31 am (wM cI cZ am zm_τ0) := by subst ham; rfl
  have h00 : am 0 = h0 := by rw [ham]; rfl
  rw [hw]
  subst h00
  clear hw ham
  refine zn_iconst (v := nI 0) C dX4_init_246 rfl ?_
  refine zn_istore_n (lv' := [(1, .int (nI 0)), (0, .ref (am 0))]) C dX4_init_247 rfl (by decide) rfl ?_
  refine zn_widen (k' := 30) (n' := 924) (by decide) (by decide) ?_
  refine k_X4_l1 C ?_ 64 0 _ rfl (Nat.le_refl _) zm_B0
  intro τ hi
  refine zn_iconst (v := nI 1) C dX4_init_274 rfl ?_
  refine zn_istore_n (lv' := [(1, .int (nI 1)), (0, .ref (am 0))]) C dX4_init_275 rfl (by decide) rfl ?_
  refine k_X4_l2 C ?_ 15 1 _ rfl (Nat.le_refl _) hi
  intro τ hi
  refine zn_aload_n C dX4_init_295 rfl (j := 1) rfl ?_
  refine zn_get C (fun w h => zw_in (zw_fX4 w h)) 0 (zs_wl_get (by decide)) rfl 1 (by decide) (zw_in zl_fX4_13) rfl dX4_init_296 ?_
  refine zn_iconst (v := nI 0) C dX4_init_299 rfl ?_
  refine zn_iconst (v := 1) C dX4_init_300 rfl ?_
  refine zn_iast (ws' := zs_wl 31 am (wM cI cZ am (zs_u τ 0 0 (1)))) C 1 0 (zs_wl_get (by decide)) rfl (vp_in_nI (n := 0) (by decide) (by decide)) (by rw [nI_clamp (by omega)]; exact zs_wl_set (zm_set_sort 0 (1))) dX4_init_301 ?_
  refine zn_aload_n C dX4_init_302 rfl (j := 1) rfl ?_
  refine zn_get C (fun w h => zw_in (zw_fX4 w h)) 0 (zs_wl_get (by decide)) rfl 7 (by decide) (zw_in zl_fX4_33) rfl dX4_init_303 ?_
  refine zn_iconst (v := nI 0) C dX4_init_306 rfl ?_
  refine zn_iconst (v := 1) C dX4_init_307 rfl ?_
  refine zn_iast (ws' := zs_wl 31 am (wM cI cZ am (zs_u (zs_u τ 0 0 (1)) 6 0 (1)))) C 7 0 (zs_wl_get (by decide)) rfl (vp_in_nI (n := 0) (by decide) (by decide)) (by rw [nI_clamp (by omega)]; exact zs_wl_set (zm_set_born 0 (1))) dX4_init_308 ?_
  refine zn_iconst (v := nI 0) C dX4_init_309 rfl ?_
  refine zn_istore_n (lv' := [(1, .int (nI 0)), (0, .ref (am 0))]) C dX4_init_310 rfl (by decide) rfl ?_
  refine k_X4_l3 C ?_ 4 0 _ rfl (Nat.le_refl _) ⟨zm_B4 hi, by rw [zs_uc (by decide), zs_us], by rw [zs_us]⟩
  intro τ hi
  exact zn_vret C hr ⟨rfl, am, τ, rfl, hi.1, hi.2.1, hi.2.2, rfl⟩ dX4_init_336
