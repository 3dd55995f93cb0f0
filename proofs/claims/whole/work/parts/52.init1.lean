abbrev tysA (cI cN cW cZ cL : ClassId) : List (ClassId × FieldType) := [(cI, .int), (cN, .object RX0), (cW, .object RX2), (cZ, .boolean), (cL, .long)]
theorem zl_oi_m : Cond.instanceMethod Lib.objectInit ∈ zw_G := zw_mem 55 (by decide +kernel) rfl
theorem zl_oi_c : Cond.code Lib.objectInit ⟨#[0xb1]⟩ 1 none ∈ zw_G := zw_mem 56 (by decide +kernel) rfl
theorem zl_aint : Cond.arrayClass .int ∈ zw_G := zw_mem 99 (by decide +kernel) rfl
theorem zl_aboolean : Cond.arrayClass .boolean ∈ zw_G := zw_mem 619 (by decide +kernel) rfl
theorem zl_along : Cond.arrayClass .long ∈ zw_G := zw_mem 713 (by decide +kernel) rfl
theorem zl_oi_X0 : Cond.methodLink RX0 3 Lib.objectInit ∈ zw_G := zw_mem 65 (by decide +kernel) rfl
theorem zl_fX0_9 : Cond.fieldLink RX0 9 "SplitStore$Node" "state" "I" ∈ zw_G := zw_mem 66 (by decide +kernel) rfl
theorem zl_fX0_15 : Cond.fieldLink RX0 15 "SplitStore$Node" "order" "I" ∈ zw_G := zw_mem 68 (by decide +kernel) rfl
theorem zl_fX0_18 : Cond.fieldLink RX0 18 "SplitStore$Node" "next" "I" ∈ zw_G := zw_mem 70 (by decide +kernel) rfl
theorem zl_fX0_21 : Cond.fieldLink RX0 21 "SplitStore$Node" "marked" "Z" ∈ zw_G := zw_mem 72 (by decide +kernel) rfl
theorem zl_fX0_25 : Cond.fieldLink RX0 25 "SplitStore$Node" "key" "I" ∈ zw_G := zw_mem 74 (by decide +kernel) rfl
theorem zl_fX0_28 : Cond.fieldLink RX0 28 "SplitStore$Node" "value" "I" ∈ zw_G := zw_mem 76 (by decide +kernel) rfl
theorem zl_fX0_31 : Cond.fieldLink RX0 31 "SplitStore$Node" "born" "I" ∈ zw_G := zw_mem 78 (by decide +kernel) rfl
theorem zl_fX0_34 : Cond.fieldLink RX0 34 "SplitStore$Node" "died" "I" ∈ zw_G := zw_mem 80 (by decide +kernel) rfl
theorem zl_oi_X1 : Cond.methodLink RX1 3 Lib.objectInit ∈ zw_G := zw_mem 110 (by decide +kernel) rfl
theorem zl_fX1_9 : Cond.fieldLink RX1 9 "SplitStore$Numbers" "length" "I" ∈ zw_G := zw_mem 112 (by decide +kernel) rfl
theorem zl_fX1_15 : Cond.fieldLink RX1 15 "SplitStore$Numbers" "items" "[I" ∈ zw_G := zw_mem 111 (by decide +kernel) rfl
theorem zl_oi_X2 : Cond.methodLink RX2 3 Lib.objectInit ∈ zw_G := zw_mem 104 (by decide +kernel) rfl
theorem zl_fX2_9 : Cond.fieldLink RX2 9 "SplitStore$Worker" "place" "I" ∈ zw_G := zw_mem 119 (by decide +kernel) rfl
theorem zl_fX2_15 : Cond.fieldLink RX2 15 "SplitStore$Worker" "operation" "I" ∈ zw_G := zw_mem 121 (by decide +kernel) rfl
theorem zl_fX2_18 : Cond.fieldLink RX2 18 "SplitStore$Worker" "key" "I" ∈ zw_G := zw_mem 123 (by decide +kernel) rfl
theorem zl_fX2_21 : Cond.fieldLink RX2 21 "SplitStore$Worker" "value" "I" ∈ zw_G := zw_mem 125 (by decide +kernel) rfl
theorem zl_fX2_24 : Cond.fieldLink RX2 24 "SplitStore$Worker" "low" "I" ∈ zw_G := zw_mem 127 (by decide +kernel) rfl
theorem zl_fX2_27 : Cond.fieldLink RX2 27 "SplitStore$Worker" "high" "I" ∈ zw_G := zw_mem 129 (by decide +kernel) rfl
theorem zl_fX2_30 : Cond.fieldLink RX2 30 "SplitStore$Worker" "bucket" "I" ∈ zw_G := zw_mem 131 (by decide +kernel) rfl
theorem zl_cX2_33 : Cond.classLink RX2 33 RX1 ∈ zw_G := zw_mem 105 (by decide +kernel) rfl
theorem zl_iX1 : Cond.instantiable RX1 2 ∈ zw_G := zw_mem 106 (by decide +kernel) rfl
theorem zl_nX1 : Cond.initialized RX1 ∈ zw_G := zw_mem 43 (by decide +kernel) rfl
theorem zl_kX1_init : Cond.code yX1_init cX1_init 2 none ∈ zw_G := zw_mem 109 (by decide +kernel) rfl
theorem zl_lX2_35 : Cond.methodLink RX2 35 yX1_init ∈ zw_G := zw_mem 107 (by decide +kernel) rfl
theorem zl_mX1_init : Cond.instanceMethod yX1_init ∈ zw_G := zw_mem 108 (by decide +kernel) rfl
theorem zl_fX2_38 : Cond.fieldLink RX2 38 "SplitStore$Worker" "stack" "LSplitStore$Numbers;" ∈ zw_G := zw_mem 133 (by decide +kernel) rfl
theorem zl_fX2_42 : Cond.fieldLink RX2 42 "SplitStore$Worker" "start" "I" ∈ zw_G := zw_mem 135 (by decide +kernel) rfl
theorem zl_fX2_45 : Cond.fieldLink RX2 45 "SplitStore$Worker" "prev" "I" ∈ zw_G := zw_mem 137 (by decide +kernel) rfl
theorem zl_fX2_48 : Cond.fieldLink RX2 48 "SplitStore$Worker" "cur" "I" ∈ zw_G := zw_mem 139 (by decide +kernel) rfl
theorem zl_fX2_51 : Cond.fieldLink RX2 51 "SplitStore$Worker" "nxt" "I" ∈ zw_G := zw_mem 141 (by decide +kernel) rfl
theorem zl_fX2_54 : Cond.fieldLink RX2 54 "SplitStore$Worker" "curMarked" "Z" ∈ zw_G := zw_mem 143 (by decide +kernel) rfl
theorem zl_fX2_58 : Cond.fieldLink RX2 58 "SplitStore$Worker" "own" "I" ∈ zw_G := zw_mem 145 (by decide +kernel) rfl
theorem zl_fX2_61 : Cond.fieldLink RX2 61 "SplitStore$Worker" "bucketNode" "I" ∈ zw_G := zw_mem 147 (by decide +kernel) rfl
theorem zl_fX2_64 : Cond.fieldLink RX2 64 "SplitStore$Worker" "cleans" "Z" ∈ zw_G := zw_mem 149 (by decide +kernel) rfl
theorem zl_fX2_67 : Cond.fieldLink RX2 67 "SplitStore$Worker" "answer" "I" ∈ zw_G := zw_mem 151 (by decide +kernel) rfl
theorem zl_fX2_70 : Cond.fieldLink RX2 70 "SplitStore$Worker" "latest" "I" ∈ zw_G := zw_mem 153 (by decide +kernel) rfl
theorem zl_fX2_73 : Cond.fieldLink RX2 73 "SplitStore$Worker" "row" "LSplitStore$Numbers;" ∈ zw_G := zw_mem 155 (by decide +kernel) rfl
set_option maxRecDepth 20000 in
theorem k_X0_init {l : Launch} {D : va_G} {cI cN cW cZ cL : ClassId} (h0 : Nat) : zn_M l D vwCl (tysA cI cN cW cZ cL) (fun _ => True) yX0_init (Cond.code yX0_init cX0_init 1 none :: zw_G) (zn_rm 1 0 0) [.ref h0] [(h0, .inr (0, [.int 0, .int 0, .int 0, .int 0, .int 0, .int 0, .int 0, .int 0]))] (fun v w => v = none ∧ w = [(h0, .inr (0, [.int 0, .int 0, .int (-1), .int 0, .int (-1), .int 0, .int 0, .int 0]))]) 0 0 := by
  refine zn_ofZ (cc := cX0_init) (nL := 1) (ret := none) (lv0 := [(0, .ref h0)]) (by decide) rfl (Nat.le_of_ble_eq_true rfl) rfl ?_
  intro p e s m args below meth c C hr hnm _
  refine zn_aload_n C dX0_init_0 rfl (j := 0) rfl ?_
  refine zn_objInit C (zw_in zl_oi_X0) (zw_in zl_oi_m) (zw_in zl_oi_c) (Nat.le_of_ble_eq_true rfl) (Nat.le_of_ble_eq_true rfl) dX0_init_1 ?_
  refine zn_aload_n C dX0_init_4 rfl (j := 0) rfl ?_
  refine zn_iconst (v := 0) C dX0_init_5 rfl ?_
  refine zn_put (ty := .int) (ws' := [(h0, .inr (0, [.int 0, .int 0, .int 0, .int 0, .int 0, .int 0, .int 0, .int 0]))]) C (fun w h => zw_in (zw_fX0 w h)) tyX0 tyX0_ok nmX0 0 rfl rfl 0 (by decide) (zw_in zl_fX0_9) rfl (by decide +kernel) rfl rfl (Nat.le_of_ble_eq_true rfl) rfl dX0_init_6 ?_
  refine zn_aload_n C dX0_init_9 rfl (j := 0) rfl ?_
  refine zn_iconst (v := 0) C dX0_init_10 rfl ?_
  refine zn_put (ty := .int) (ws' := [(h0, .inr (0, [.int 0, .int 0, .int 0, .int 0, .int 0, .int 0, .int 0, .int 0]))]) C (fun w h => zw_in (zw_fX0 w h)) tyX0 tyX0_ok nmX0 0 rfl rfl 1 (by decide) (zw_in zl_fX0_15) rfl (by decide +kernel) rfl rfl (Nat.le_of_ble_eq_true rfl) rfl dX0_init_11 ?_
  refine zn_aload_n C dX0_init_14 rfl (j := 0) rfl ?_
  refine zn_iconst (v := -1) C dX0_init_15 rfl ?_
  refine zn_put (ty := .int) (ws' := [(h0, .inr (0, [.int 0, .int 0, .int (-1), .int 0, .int 0, .int 0, .int 0, .int 0]))]) C (fun w h => zw_in (zw_fX0 w h)) tyX0 tyX0_ok nmX0 0 rfl rfl 2 (by decide) (zw_in zl_fX0_18) rfl (by decide +kernel) rfl rfl (Nat.le_of_ble_eq_true rfl) rfl dX0_init_16 ?_
  refine zn_aload_n C dX0_init_19 rfl (j := 0) rfl ?_
  refine zn_iconst (v := 0) C dX0_init_20 rfl ?_
  refine zn_put (ty := .boolean) (ws' := [(h0, .inr (0, [.int 0, .int 0, .int (-1), .int 0, .int 0, .int 0, .int 0, .int 0]))]) C (fun w h => zw_in (zw_fX0 w h)) tyX0 tyX0_ok nmX0 0 rfl rfl 3 (by decide) (zw_in zl_fX0_21) rfl (by decide +kernel) rfl rfl (Nat.le_of_ble_eq_true rfl) rfl dX0_init_21 ?_
  refine zn_aload_n C dX0_init_24 rfl (j := 0) rfl ?_
  refine zn_iconst (v := -1) C dX0_init_25 rfl ?_
  refine zn_put (ty := .int) (ws' := [(h0, .inr (0, [.int 0, .int 0, .int (-1), .int 0, .int (-1), .int 0, .int 0, .int 0]))]) C (fun w h => zw_in (zw_fX0 w h)) tyX0 tyX0_ok nmX0 0 rfl rfl 4 (by decide) (zw_in zl_fX0_25) rfl (by decide +kernel) rfl rfl (Nat.le_of_ble_eq_true rfl) rfl dX0_init_26 ?_
  refine zn_aload_n C dX0_init_29 rfl (j := 0) rfl ?_
  refine zn_iconst (v := 0) C dX0_init_30 rfl ?_
  refine zn_put (ty := .int) (ws' := [(h0, .inr (0, [.int 0, .int 0, .int (-1), .int 0, .int (-1), .int 0, .int 0, .int 0]))]) C (fun w h => zw_in (zw_fX0 w h)) tyX0 tyX0_ok nmX0 0 rfl rfl 5 (by decide) (zw_in zl_fX0_28) rfl (by decide +kernel) rfl rfl (Nat.le_of_ble_eq_true rfl) rfl dX0_init_31 ?_
  refine zn_aload_n C dX0_init_34 rfl (j := 0) rfl ?_
  refine zn_iconst (v := 0) C dX0_init_35 rfl ?_
  refine zn_put (ty := .int) (ws' := [(h0, .inr (0, [.int 0, .int 0, .int (-1), .int 0, .int (-1), .int 0, .int 0, .int 0]))]) C (fun w h => zw_in (zw_fX0 w h)) tyX0 tyX0_ok nmX0 0 rfl rfl 6 (by decide) (zw_in zl_fX0_31) rfl (by decide +kernel) rfl rfl (Nat.le_of_ble_eq_true rfl) rfl dX0_init_36 ?_
  refine zn_aload_n C dX0_init_39 rfl (j := 0) rfl ?_
  refine zn_iconst (v := 0) C dX0_init_40 rfl ?_
  refine zn_put (ty := .int) (ws' := [(h0, .inr (0, [.int 0, .int 0, .int (-1), .int 0, .int (-1), .int 0, .int 0, .int 0]))]) C (fun w h => zw_in (zw_fX0 w h)) tyX0 tyX0_ok nmX0 0 rfl rfl 7 (by decide) (zw_in zl_fX0_34) rfl (by decide +kernel) rfl rfl (Nat.le_of_ble_eq_true rfl) rfl dX0_init_41 ?_
  exact zn_vret C hr ⟨rfl, rfl⟩ dX0_init_44
set_option maxRecDepth 20000 in
theorem k_X1_init {l : Launch} {D : va_G} {cI cN cW cZ cL : ClassId} (h0 N : Nat) (hN : N ≤ 64) : zn_M l D vwCl (tysA cI cN cW cZ cL) (fun _ => True) yX1_init (Cond.code yX1_init cX1_init 2 none :: zw_G) (zn_rm 1 1 N) [.ref h0, .int (nI N)] [(h0, .inr (1, [.null, .int 0]))] (fun v w => v = none ∧ ∃ q, w = [(h0, .inr (1, [.ref q, .int 0])), (q, .inl (cI, N, .inl (fun _ => 0)))]) 1 N := by
  refine zn_ofZ (cc := cX1_init) (nL := 2) (ret := none) (lv0 := [(0, .ref h0), (1, .int (nI N))]) (by decide) rfl (Nat.le_of_ble_eq_true rfl) rfl ?_
  intro p e s m args below meth c C hr hnm _
  refine zn_aload_n C dX1_init_0 rfl (j := 0) rfl ?_
  refine zn_objInit C (zw_in zl_oi_X1) (zw_in zl_oi_m) (zw_in zl_oi_c) (Nat.le_of_ble_eq_true rfl) (Nat.le_of_ble_eq_true rfl) dX1_init_1 ?_
  refine zn_aload_n C dX1_init_4 rfl (j := 0) rfl ?_
  refine zn_iconst (v := 0) C dX1_init_5 rfl ?_
  refine zn_put (ty := .int) (ws' := [(h0, .inr (1, [.null, .int 0]))]) C (fun w h => zw_in (zw_fX1 w h)) tyX1 tyX1_ok nmX1 0 rfl rfl 1 (by decide) (zw_in zl_fX1_9) rfl (by decide +kernel) rfl rfl (Nat.le_of_ble_eq_true rfl) rfl dX1_init_6 ?_
  refine zn_aload_n C dX1_init_9 rfl (j := 0) rfl ?_
  refine zn_iload_n C dX1_init_10 rfl (j := 1) rfl ?_
  refine zn_newa (atype := .int) (ty := .int) (N := N) (a0 := (N, .inl (fun _ => 0))) C (zw_in zl_aint) rfl 0 rfl (fun _ => rfl) (nI_pos (by omega)) (nI_clamp (by omega)) (by show N * 4 ≤ _; omega) (Nat.le_refl _) (by show 0 + N ≤ N; omega) dX1_init_11 (fun q => ?_)
  refine zn_putF (ty := tyX1 0) (ws' := [(h0, .inr (1, [.ref q, .int 0]))] ++ [(q, .inl (cI, N, .inl (fun _ => 0)))]) C (fun w h => zw_in (zw_fX1 w h)) tyX1 tyX1_ok nmX1 0 rfl rfl 0 (by decide) (zw_in zl_fX1_15) rfl hnm rfl (by decide +kernel) rfl rfl (Nat.le_of_ble_eq_true rfl) rfl dX1_init_13 ?_
  refine zn_widen (k' := 1) (n' := N) (by omega) (by omega) ?_
  exact zn_vret C hr ⟨rfl, q, rfl⟩ dX1_init_16
set_option maxRecDepth 20000 in
theorem k_X2_init {l : Launch} {D : va_G} {cI cN cW cZ cL : ClassId} (h0 : Nat) : zn_M l D vwCl (tysA cI cN cW cZ cL) (fun _ => True) yX2_init (Cond.code yX2_init cX2_init 1 none :: zw_G) (zn_rm 2 4 72) [.ref h0] [(h0, .inr (2, [.int 0, .int 0, .int 0, .int 0, .int 0, .int 0, .int 0, .null, .int 0, .int 0, .int 0, .int 0, .int 0, .int 0, .int 0, .int 0, .int 0, .int 0, .null]))] (fun v w => v = none ∧ ∃ q1 q2 q3 q4, w = [(h0, .inr (2, [.int 0, .int 0, .int 0, .int 0, .int 0, .int 0, .int 0, .ref q1, .int (-1), .int (-1), .int (-1), .int (-1), .int 0, .int (-1), .int (-1), .int 0, .int (-1), .int (-1), .ref q3])), (q1, .inr (1, [.ref q2, .int 0])), (q2, .inl (cI, 4, .inl (fun _ => 0))), (q3, .inr (1, [.ref q4, .int 0])), (q4, .inl (cI, 64, .inl (fun _ => 0)))]) 4 72 := by
  refine zn_ofZ (cc := cX2_init) (nL := 1) (ret := none) (lv0 := [(0, .ref h0)]) (by decide) rfl (Nat.le_of_ble_eq_true rfl) rfl ?_
  intro p e s m args below meth c C hr hnm _
  refine zn_aload_n C dX2_init_0 rfl (j := 0) rfl ?_
  refine zn_objInit C (zw_in zl_oi_X2) (zw_in zl_oi_m) (zw_in zl_oi_c) (Nat.le_of_ble_eq_true rfl) (Nat.le_of_ble_eq_true rfl) dX2_init_1 ?_
  refine zn_aload_n C dX2_init_4 rfl (j := 0) rfl ?_
  refine zn_iconst (v := 0) C dX2_init_5 rfl ?_
  refine zn_put (ty := .int) (ws' := [(h0, .inr (2, [.int 0, .int 0, .int 0, .int 0, .int 0, .int 0, .int 0, .null, .int 0, .int 0, .int 0, .int 0, .int 0, .int 0, .int 0, .int 0, .int 0, .int 0, .null]))]) C (fun w h => zw_in (zw_fX2 w h)) tyX2 tyX2_ok nmX2 0 rfl rfl 0 (by decide) (zw_in zl_fX2_9) rfl (by decide +kernel) rfl rfl (Nat.le_of_ble_eq_true rfl) rfl dX2_init_6 ?_
  refine zn_aload_n C dX2_init_9 rfl (j := 0) rfl ?_
  refine zn_iconst (v := 0) C dX2_init_10 rfl ?_
  refine zn_put (ty := .int) (ws' := [(h0, .inr (2, [.int 0, .int 0, .int 0, .int 0, .int 0, .int 0, .int 0, .null, .int 0, .int 0, .int 0, .int 0, .int 0, .int 0, .int 0, .int 0, .int 0, .int 0, .null]))]) C (fun w h => zw_in (zw_fX2 w h)) tyX2 tyX2_ok nmX2 0 rfl rfl 1 (by decide) (zw_in zl_fX2_15) rfl (by decide +kernel) rfl rfl (Nat.le_of_ble_eq_true rfl) rfl dX2_init_11 ?_
  refine zn_aload_n C dX2_init_14 rfl (j := 0) rfl ?_
  refine zn_iconst (v := 0) C dX2_init_15 rfl ?_
  refine zn_put (ty := .int) (ws' := [(h0, .inr (2, [.int 0, .int 0, .int 0, .int 0, .int 0, .int 0, .int 0, .null, .int 0, .int 0, .int 0, .int 0, .int 0, .int 0, .int 0, .int 0, .int 0, .int 0, .null]))]) C (fun w h => zw_in (zw_fX2 w h)) tyX2 tyX2_ok nmX2 0 rfl rfl 2 (by decide) (zw_in zl_fX2_18) rfl (by decide +kernel) rfl rfl (Nat.le_of_ble_eq_true rfl) rfl dX2_init_16 ?_
  refine zn_aload_n C dX2_init_19 rfl (j := 0) rfl ?_
  refine zn_iconst (v := 0) C dX2_init_20 rfl ?_
  refine zn_put (ty := .int) (ws' := [(h0, .inr (2, [.int 0, .int 0, .int 0, .int 0, .int 0, .int 0, .int 0, .null, .int 0, .int 0, .int 0, .int 0, .int 0, .int 0, .int 0, .int 0, .int 0, .int 0, .null]))]) C (fun w h => zw_in (zw_fX2 w h)) tyX2 tyX2_ok nmX2 0 rfl rfl 3 (by decide) (zw_in zl_fX2_21) rfl (by decide +kernel) rfl rfl (Nat.le_of_ble_eq_true rfl) rfl dX2_init_21 ?_
  refine zn_aload_n C dX2_init_24 rfl (j := 0) rfl ?_
  refine zn_iconst (v := 0) C dX2_init_25 rfl ?_
  refine zn_put (ty := .int) (ws' := [(h0, .inr (2, [.int 0, .int 0, .int 0, .int 0, .int 0, .int 0, .int 0, .null, .int 0, .int 0, .int 0, .int 0, .int 0, .int 0, .int 0, .int 0, .int 0, .int 0, .null]))]) C (fun w h => zw_in (zw_fX2 w h)) tyX2 tyX2_ok nmX2 0 rfl rfl 4 (by decide) (zw_in zl_fX2_24) rfl (by decide +kernel) rfl rfl (Nat.le_of_ble_eq_true rfl) rfl dX2_init_26 ?_
  refine zn_aload_n C dX2_init_29 rfl (j := 0) rfl ?_
  refine zn_iconst (v := 0) C dX2_init_30 rfl ?_
  refine zn_put (ty := .int) (ws' := [(h0, .inr (2, [.int 0, .int 0, .int 0, .int 0, .int 0, .int 0, .int 0, .null, .int 0, .int 0, .int 0, .int 0, .int 0, .int 0, .int 0, .int 0, .int 0, .int 0, .null]))]) C (fun w h => zw_in (zw_fX2 w h)) tyX2 tyX2_ok nmX2 0 rfl rfl 5 (by decide) (zw_in zl_fX2_27) rfl (by decide +kernel) rfl rfl (Nat.le_of_ble_eq_true rfl) rfl dX2_init_31 ?_
  refine zn_aload_n C dX2_init_34 rfl (j := 0) rfl ?_
  refine zn_iconst (v := 0) C dX2_init_35 rfl ?_
  refine zn_put (ty := .int) (ws' := [(h0, .inr (2, [.int 0, .int 0, .int 0, .int 0, .int 0, .int 0, .int 0, .null, .int 0, .int 0, .int 0, .int 0, .int 0, .int 0, .int 0, .int 0, .int 0, .int 0, .null]))]) C (fun w h => zw_in (zw_fX2 w h)) tyX2 tyX2_ok nmX2 0 rfl rfl 6 (by decide) (zw_in zl_fX2_30) rfl (by decide +kernel) rfl rfl (Nat.le_of_ble_eq_true rfl) rfl dX2_init_36 ?_
  refine zn_aload_n C dX2_init_39 rfl (j := 0) rfl ?_
  refine zn_new (ci := 1) (fs := [.null, .int 0]) C (fun w h => zw_in (zw_fX1 w h)) tyX1 tyX1_ok (zw_in zl_cX2_33) (zw_in zl_iX1) (zw_in zl_nX1) rfl (fun j hj => by rcases (show j = 0 ∨ j = 1 by omega) with rfl | rfl <;> rfl) (by decide) (by decide) dX2_init_40 (fun q1 => ?_)
  refine zn_dup C dX2_init_43 rfl ?_
  refine zn_iconst (v := nI 4) C dX2_init_44 rfl ?_
  refine zn_callI (tys1 := (tysA cI cN cW cZ cL)) (wl := [(h0, .inr (2, [.int 0, .int 0, .int 0, .int 0, .int 0, .int 0, .int 0, .null, .int 0, .int 0, .int 0, .int 0, .int 0, .int 0, .int 0, .int 0, .int 0, .int 0, .null]))]) (w0 := [(q1, .inr (1, [.null, .int 0]))]) (wr := []) (As := [.int (nI 4)]) (rest := [.ref q1, .ref h0]) C (k_X1_init q1 4 (by decide)) (fun h => h) (fun _ _ _ h => h) (fun _ _ => trivial) (cwI 1 C.1.2.2.2.2 (zw_good zl_kX1_init) rfl rfl rfl (C.1.2.2.2.2 _ (zw_in zl_nX1)) (C.1.2.2.2.2 _ (zw_in zl_lX2_35)) (C.1.2.2.2.2 _ (zw_in zl_mX1_init)) rfl (by decide +kernel) ⟨by decide, by decide⟩) rfl rfl (Nat.le_of_ble_eq_true rfl) dX2_init_45 ⟨by decide, by decide⟩ rfl ?_
  rintro _ _ ⟨rfl, q2, rfl⟩
  refine zn_putF (ty := tyX2 7) (ws' := [(h0, .inr (2, [.int 0, .int 0, .int 0, .int 0, .int 0, .int 0, .int 0, .ref q1, .int 0, .int 0, .int 0, .int 0, .int 0, .int 0, .int 0, .int 0, .int 0, .int 0, .null]))] ++ [(q1, .inr (1, [.ref q2, .int 0])), (q2, .inl (cI, 4, .inl (fun _ => 0)))]) C (fun w h => zw_in (zw_fX2 w h)) tyX2 tyX2_ok nmX2 0 rfl rfl 7 (by decide) (zw_in zl_fX2_38) rfl hnm rfl (by decide +kernel) rfl rfl (Nat.le_of_ble_eq_true rfl) rfl dX2_init_48 ?_
  refine zn_aload_n C dX2_init_51 rfl (j := 0) rfl ?_
  refine zn_iconst (v := -1) C dX2_init_52 rfl ?_
  refine zn_put (ty := .int) (ws' := [(h0, .inr (2, [.int 0, .int 0, .int 0, .int 0, .int 0, .int 0, .int 0, .ref q1, .int (-1), .int 0, .int 0, .int 0, .int 0, .int 0, .int 0, .int 0, .int 0, .int 0, .null]))] ++ [(q1, .inr (1, [.ref q2, .int 0])), (q2, .inl (cI, 4, .inl (fun _ => 0)))]) C (fun w h => zw_in (zw_fX2 w h)) tyX2 tyX2_ok nmX2 0 rfl rfl 8 (by decide) (zw_in zl_fX2_42) rfl (by decide +kernel) rfl rfl (Nat.le_of_ble_eq_true rfl) rfl dX2_init_53 ?_
  refine zn_aload_n C dX2_init_56 rfl (j := 0) rfl ?_
  refine zn_iconst (v := -1) C dX2_init_57 rfl ?_
  refine zn_put (ty := .int) (ws' := [(h0, .inr (2, [.int 0, .int 0, .int 0, .int 0, .int 0, .int 0, .int 0, .ref q1, .int (-1), .int (-1), .int 0, .int 0, .int 0, .int 0, .int 0, .int 0, .int 0, .int 0, .null]))] ++ [(q1, .inr (1, [.ref q2, .int 0])), (q2, .inl (cI, 4, .inl (fun _ => 0)))]) C (fun w h => zw_in (zw_fX2 w h)) tyX2 tyX2_ok nmX2 0 rfl rfl 9 (by decide) (zw_in zl_fX2_45) rfl (by decide +kernel) rfl rfl (Nat.le_of_ble_eq_true rfl) rfl dX2_init_58 ?_
  refine zn_aload_n C dX2_init_61 rfl (j := 0) rfl ?_
  refine zn_iconst (v := -1) C dX2_init_62 rfl ?_
  refine zn_put (ty := .int) (ws' := [(h0, .inr (2, [.int 0, .int 0, .int 0, .int 0, .int 0, .int 0, .int 0, .ref q1, .int (-1), .int (-1), .int (-1), .int 0, .int 0, .int 0, .int 0, .int 0, .int 0, .int 0, .null]))] ++ [(q1, .inr (1, [.ref q2, .int 0])), (q2, .inl (cI, 4, .inl (fun _ => 0)))]) C (fun w h => zw_in (zw_fX2 w h)) tyX2 tyX2_ok nmX2 0 rfl rfl 10 (by decide) (zw_in zl_fX2_48) rfl (by decide +kernel) rfl rfl (Nat.le_of_ble_eq_true rfl) rfl dX2_init_63 ?_
  refine zn_aload_n C dX2_init_66 rfl (j := 0) rfl ?_
  refine zn_iconst (v := -1) C dX2_init_67 rfl ?_
  refine zn_put (ty := .int) (ws' := [(h0, .inr (2, [.int 0, .int 0, .int 0, .int 0, .int 0, .int 0, .int 0, .ref q1, .int (-1), .int (-1), .int (-1), .int (-1), .int 0, .int 0, .int 0, .int 0, .int 0, .int 0, .null]))] ++ [(q1, .inr (1, [.ref q2, .int 0])), (q2, .inl (cI, 4, .inl (fun _ => 0)))]) C (fun w h => zw_in (zw_fX2 w h)) tyX2 tyX2_ok nmX2 0 rfl rfl 11 (by decide) (zw_in zl_fX2_51) rfl (by decide +kernel) rfl rfl (Nat.le_of_ble_eq_true rfl) rfl dX2_init_68 ?_
  refine zn_aload_n C dX2_init_71 rfl (j := 0) rfl ?_
  refine zn_iconst (v := 0) C dX2_init_72 rfl ?_
  refine zn_put (ty := .boolean) (ws' := [(h0, .inr (2, [.int 0, .int 0, .int 0, .int 0, .int 0, .int 0, .int 0, .ref q1, .int (-1), .int (-1), .int (-1), .int (-1), .int 0, .int 0, .int 0, .int 0, .int 0, .int 0, .null]))] ++ [(q1, .inr (1, [.ref q2, .int 0])), (q2, .inl (cI, 4, .inl (fun _ => 0)))]) C (fun w h => zw_in (zw_fX2 w h)) tyX2 tyX2_ok nmX2 0 rfl rfl 12 (by decide) (zw_in zl_fX2_54) rfl (by decide +kernel) rfl rfl (Nat.le_of_ble_eq_true rfl) rfl dX2_init_73 ?_
  refine zn_aload_n C dX2_init_76 rfl (j := 0) rfl ?_
  refine zn_iconst (v := -1) C dX2_init_77 rfl ?_
  refine zn_put (ty := .int) (ws' := [(h0, .inr (2, [.int 0, .int 0, .int 0, .int 0, .int 0, .int 0, .int 0, .ref q1, .int (-1), .int (-1), .int (-1), .int (-1), .int 0, .int (-1), .int 0, .int 0, .int 0, .int 0, .null]))] ++ [(q1, .inr (1, [.ref q2, .int 0])), (q2, .inl (cI, 4, .inl (fun _ => 0)))]) C (fun w h => zw_in (zw_fX2 w h)) tyX2 tyX2_ok nmX2 0 rfl rfl 13 (by decide) (zw_in zl_fX2_58) rfl (by decide +kernel) rfl rfl (Nat.le_of_ble_eq_true rfl) rfl dX2_init_78 ?_
  refine zn_aload_n C dX2_init_81 rfl (j := 0) rfl ?_
  refine zn_iconst (v := -1) C dX2_init_82 rfl ?_
  refine zn_put (ty := .int) (ws' := [(h0, .inr (2, [.int 0, .int 0, .int 0, .int 0, .int 0, .int 0, .int 0, .ref q1, .int (-1), .int (-1), .int (-1), .int (-1), .int 0, .int (-1), .int (-1), .int 0, .int 0, .int 0, .null]))] ++ [(q1, .inr (1, [.ref q2, .int 0])), (q2, .inl (cI, 4, .inl (fun _ => 0)))]) C (fun w h => zw_in (zw_fX2 w h)) tyX2 tyX2_ok nmX2 0 rfl rfl 14 (by decide) (zw_in zl_fX2_61) rfl (by decide +kernel) rfl rfl (Nat.le_of_ble_eq_true rfl) rfl dX2_init_83 ?_
  refine zn_aload_n C dX2_init_86 rfl (j := 0) rfl ?_
  refine zn_iconst (v := 0) C dX2_init_87 rfl ?_
  refine zn_put (ty := .boolean) (ws' := [(h0, .inr (2, [.int 0, .int 0, .int 0, .int 0, .int 0, .int 0, .int 0, .ref q1, .int (-1), .int (-1), .int (-1), .int (-1), .int 0, .int (-1), .int (-1), .int 0, .int 0, .int 0, .null]))] ++ [(q1, .inr (1, [.ref q2, .int 0])), (q2, .inl (cI, 4, .inl (fun _ => 0)))]) C (fun w h => zw_in (zw_fX2 w h)) tyX2 tyX2_ok nmX2 0 rfl rfl 15 (by decide) (zw_in zl_fX2_64) rfl (by decide +kernel) rfl rfl (Nat.le_of_ble_eq_true rfl) rfl dX2_init_88 ?_
  refine zn_aload_n C dX2_init_91 rfl (j := 0) rfl ?_
  refine zn_iconst (v := -1) C dX2_init_92 rfl ?_
  refine zn_put (ty := .int) (ws' := [(h0, .inr (2, [.int 0, .int 0, .int 0, .int 0, .int 0, .int 0, .int 0, .ref q1, .int (-1), .int (-1), .int (-1), .int (-1), .int 0, .int (-1), .int (-1), .int 0, .int (-1), .int 0, .null]))] ++ [(q1, .inr (1, [.ref q2, .int 0])), (q2, .inl (cI, 4, .inl (fun _ => 0)))]) C (fun w h => zw_in (zw_fX2 w h)) tyX2 tyX2_ok nmX2 0 rfl rfl 16 (by decide) (zw_in zl_fX2_67) rfl (by decide +kernel) rfl rfl (Nat.le_of_ble_eq_true rfl) rfl dX2_init_93 ?_
  refine zn_aload_n C dX2_init_96 rfl (j := 0) rfl ?_
  refine zn_iconst (v := -1) C dX2_init_97 rfl ?_
  refine zn_put (ty := .int) (ws' := [(h0, .inr (2, [.int 0, .int 0, .int 0, .int 0, .int 0, .int 0, .int 0, .ref q1, .int (-1), .int (-1), .int (-1), .int (-1), .int 0, .int (-1), .int (-1), .int 0, .int (-1), .int (-1), .null]))] ++ [(q1, .inr (1, [.ref q2, .int 0])), (q2, .inl (cI, 4, .inl (fun _ => 0)))]) C (fun w h => zw_in (zw_fX2 w h)) tyX2 tyX2_ok nmX2 0 rfl rfl 17 (by decide) (zw_in zl_fX2_70) rfl (by decide +kernel) rfl rfl (Nat.le_of_ble_eq_true rfl) rfl dX2_init_98 ?_
  refine zn_aload_n C dX2_init_101 rfl (j := 0) rfl ?_
  refine zn_new (ci := 1) (fs := [.null, .int 0]) C (fun w h => zw_in (zw_fX1 w h)) tyX1 tyX1_ok (zw_in zl_cX2_33) (zw_in zl_iX1) (zw_in zl_nX1) rfl (fun j hj => by rcases (show j = 0 ∨ j = 1 by omega) with rfl | rfl <;> rfl) (by decide) (by decide) dX2_init_102 (fun q3 => ?_)
  refine zn_dup C dX2_init_105 rfl ?_
  refine zn_bipush (v := nI 64) C dX2_init_106 rfl ?_
  refine zn_callI (tys1 := (tysA cI cN cW cZ cL)) (wl := [(h0, .inr (2, [.int 0, .int 0, .int 0, .int 0, .int 0, .int 0, .int 0, .ref q1, .int (-1), .int (-1), .int (-1), .int (-1), .int 0, .int (-1), .int (-1), .int 0, .int (-1), .int (-1), .null]))] ++ [(q1, .inr (1, [.ref q2, .int 0])), (q2, .inl (cI, 4, .inl (fun _ => 0)))]) (w0 := [(q3, .inr (1, [.null, .int 0]))]) (wr := []) (As := [.int (nI 64)]) (rest := [.ref q3, .ref h0]) C (k_X1_init q3 64 (by decide)) (fun h => h) (fun _ _ _ h => h) (fun _ _ => trivial) (cwI 1 C.1.2.2.2.2 (zw_good zl_kX1_init) rfl rfl rfl (C.1.2.2.2.2 _ (zw_in zl_nX1)) (C.1.2.2.2.2 _ (zw_in zl_lX2_35)) (C.1.2.2.2.2 _ (zw_in zl_mX1_init)) rfl (by decide +kernel) ⟨by decide, by decide⟩) rfl rfl (Nat.le_of_ble_eq_true rfl) dX2_init_108 ⟨by decide, by decide⟩ rfl ?_
  rintro _ _ ⟨rfl, q4, rfl⟩
  refine zn_putF (ty := tyX2 18) (ws' := [(h0, .inr (2, [.int 0, .int 0, .int 0, .int 0, .int 0, .int 0, .int 0, .ref q1, .int (-1), .int (-1), .int (-1), .int (-1), .int 0, .int (-1), .int (-1), .int 0, .int (-1), .int (-1), .ref q3]))] ++ [(q1, .inr (1, [.ref q2, .int 0])), (q2, .inl (cI, 4, .inl (fun _ => 0)))] ++ [(q3, .inr (1, [.ref q4, .int 0])), (q4, .inl (cI, 64, .inl (fun _ => 0)))]) C (fun w h => zw_in (zw_fX2 w h)) tyX2 tyX2_ok nmX2 0 rfl rfl 18 (by decide) (zw_in zl_fX2_73) rfl hnm rfl (by decide +kernel) rfl rfl (Nat.le_of_ble_eq_true rfl) rfl dX2_init_111 ?_
  refine zn_widen (k' := 4) (n' := 72) (by decide) (by decide) ?_
  exact zn_vret C hr ⟨rfl, q1, q2, q3, q4, rfl⟩ dX2_init_114
