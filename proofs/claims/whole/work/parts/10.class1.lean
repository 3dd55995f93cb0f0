def fn_X0_pointTo (σ : zs_T) (k0 : Nat) (x1 : Int32) (x2 : Int32) : zs_O := ((zs_u (zs_u σ 2 k0 x1) 3 k0 x2), 0)
def ok_X0_pointTo (σ : zs_T) (k0 : Nat) (x1 : Int32) (x2 : Int32) : Prop := zs_B x2 ∧ (True)
set_option maxHeartbeats 4000000 in
set_option maxRecDepth 100000 in
theorem m_X0_pointTo {l : Launch} {D : va_G} {cI cN cW : ClassId} {ad : Nat → Nat} (hJ : zs_J 88 ad) (d : Nat) (σ : zs_T) (k0 : Nat) (x1 : Int32) (x2 : Int32) (hk0 : k0 < 64) (hok : ok_X0_pointTo σ k0 x1 x2) : zs_M l D vwCl (tysC cI cN cW) 88 ad (wC cI cN cW ad) yX0_pointTo (Cond.code yX0_pointTo cX0_pointTo 3 none :: zw_G) (zw_rm (d)) [.ref (ad (4 + k0)), .int x1, .int x2] zs_vv σ (fn_X0_pointTo σ k0 x1 x2) := by
  refine zs_ofZ (cc := cX0_pointTo) (nL := 3) (ret := none) (lv0 := [(0, .ref (ad (4 + k0))), (1, .int x1), (2, .int x2)]) (by decide) rfl hJ (Nat.le_of_ble_eq_true rfl) rfl ?_
  intro p e s m args below meth c C hr
  unfold ok_X0_pointTo at hok
  unfold fn_X0_pointTo
  refine zs_aload_n (k := 0) C dX0_pointTo_0 rfl rfl ?_
  refine zs_iload_n (k := 1) C dX0_pointTo_1 rfl rfl ?_
  refine pC_Node_next C hk0 lkX0_18 dX0_pointTo_2 ?_
  refine zs_aload_n (k := 0) C dX0_pointTo_5 rfl rfl ?_
  refine zs_iload_n (k := 2) C dX0_pointTo_6 rfl rfl ?_
  obtain ⟨h_1, hok⟩ := hok
  refine pC_Node_marked C hk0 lkX0_21 h_1 dX0_pointTo_7 ?_
  exact zs_vret C hr dX0_pointTo_10

def fn_X0_appear (σ : zs_T) (k0 : Nat) (x1 : Int32) (x2 : Int32) (x3 : Int32) (x4 : Int32) : zs_O := ((fn_X0_pointTo (zs_u (zs_u (zs_u (zs_u (zs_u (zs_u σ 0 k0 1) 1 k0 x1) 4 k0 x2) 5 k0 x3) 6 k0 x4) 7 k0 0) k0 (-1) 0).1, 0)
def ok_X0_appear (σ : zs_T) (k0 : Nat) (x1 : Int32) (x2 : Int32) (x3 : Int32) (x4 : Int32) : Prop := ok_X0_pointTo (zs_u (zs_u (zs_u (zs_u (zs_u (zs_u σ 0 k0 1) 1 k0 x1) 4 k0 x2) 5 k0 x3) 6 k0 x4) 7 k0 0) k0 (-1) 0 ∧ (True)
set_option maxHeartbeats 4000000 in
set_option maxRecDepth 100000 in
theorem m_X0_appear {l : Launch} {D : va_G} {cI cN cW : ClassId} {ad : Nat → Nat} (hJ : zs_J 88 ad) (d : Nat) (σ : zs_T) (k0 : Nat) (x1 : Int32) (x2 : Int32) (x3 : Int32) (x4 : Int32) (hk0 : k0 < 64) (hok : ok_X0_appear σ k0 x1 x2 x3 x4) : zs_M l D vwCl (tysC cI cN cW) 88 ad (wC cI cN cW ad) yX0_appear (Cond.code yX0_appear cX0_appear 5 none :: zw_G) (zw_rm (d + 1)) [.ref (ad (4 + k0)), .int x1, .int x2, .int x3, .int x4] zs_vv σ (fn_X0_appear σ k0 x1 x2 x3 x4) := by
  refine zs_ofZ (cc := cX0_appear) (nL := 5) (ret := none) (lv0 := [(0, .ref (ad (4 + k0))), (1, .int x1), (2, .int x2), (3, .int x3), (4, .int x4)]) (by decide) rfl hJ (Nat.le_of_ble_eq_true rfl) rfl ?_
  intro p e s m args below meth c C hr
  unfold ok_X0_appear at hok
  unfold fn_X0_appear
  refine zs_aload_n (k := 0) C dX0_appear_0 rfl rfl ?_
  refine zs_iconst (v := 1) C dX0_appear_1 (by decide) ?_
  refine pC_Node_state C hk0 lkX0_9 dX0_appear_2 ?_
  refine zs_aload_n (k := 0) C dX0_appear_5 rfl rfl ?_
  refine zs_iload_n (k := 1) C dX0_appear_6 rfl rfl ?_
  refine pC_Node_order C hk0 lkX0_15 dX0_appear_7 ?_
  refine zs_aload_n (k := 0) C dX0_appear_10 rfl rfl ?_
  refine zs_iload_n (k := 2) C dX0_appear_11 rfl rfl ?_
  refine pC_Node_key C hk0 lkX0_25 dX0_appear_12 ?_
  refine zs_aload_n (k := 0) C dX0_appear_15 rfl rfl ?_
  refine zs_iload_n (k := 3) C dX0_appear_16 rfl rfl ?_
  refine pC_Node_value C hk0 lkX0_28 dX0_appear_17 ?_
  refine zs_aload_n (k := 0) C dX0_appear_20 rfl rfl ?_
  refine zs_iload (k := 4) C dX0_appear_21 rfl ?_
  refine pC_Node_born C hk0 lkX0_31 dX0_appear_23 ?_
  refine zs_aload_n (k := 0) C dX0_appear_26 rfl rfl ?_
  refine zs_iconst (v := 0) C dX0_appear_27 (by decide) ?_
  refine pC_Node_died C hk0 lkX0_34 dX0_appear_28 ?_
  refine zs_aload_n (k := 0) C dX0_appear_31 rfl rfl ?_
  refine zs_iconst (v := (-1)) C dX0_appear_32 (by decide) ?_
  refine zs_iconst (v := 0) C dX0_appear_33 (by decide) ?_
  obtain ⟨h_1, hok⟩ := hok
  refine zk_callVv (As := [.int (-1), .int 0]) (rest := []) C pk_X0_pointTo (by decide) lkX0_37 (m_X0_pointTo hJ d (zs_u (zs_u (zs_u (zs_u (zs_u (zs_u σ 0 k0 1) 1 k0 x1) 4 k0 x2) 5 k0 x3) 6 k0 x4) 7 k0 0) k0 (-1) 0 hk0 h_1) (zc_recvNode hk0) rfl rfl rfl (Nat.le_of_ble_eq_true rfl) dX0_appear_34 ?_
  exact zs_vret C hr dX0_appear_37

def fr_X1_isEmpty (σ : zs_T) (t0 : Nat) : Int32 := (if σ 30 t0 = 0 then 1 else 0)
set_option maxHeartbeats 4000000 in
set_option maxRecDepth 100000 in
theorem m_X1_isEmpty {l : Launch} {D : va_G} {cI cN cW : ClassId} {ad : Nat → Nat} (hJ : zs_J 88 ad) (d : Nat) (σ : zs_T) (t0 : Nat) (ht0 : t0 < 8) : zs_M l D vwCl (tysC cI cN cW) 88 ad (wC cI cN cW ad) yX1_isEmpty (Cond.code yX1_isEmpty cX1_isEmpty 1 (some .boolean) :: zw_G) (zw_rm (d)) [.ref (ad (72 + t0))] zs_vi σ (σ, fr_X1_isEmpty σ t0) := by
  refine zs_ofZ (cc := cX1_isEmpty) (nL := 1) (ret := (some .boolean)) (lv0 := [(0, .ref (ad (72 + t0)))]) (by decide) rfl hJ (Nat.le_of_ble_eq_true rfl) rfl ?_
  intro p e s m args below meth c C hr
  unfold fr_X1_isEmpty
  refine zs_aload_n (k := 0) C dX1_isEmpty_0 rfl rfl ?_
  refine gC_Num_length C ht0 lkX1_9 dX1_isEmpty_1 ?_
  refine zs_if_neP (tgt := 11) C dX1_isEmpty_4 (by decide) (fun c_1 => ?_) (fun c_1 => ?_)
  · refine zs_iconst (v := 1) C dX1_isEmpty_7 (by decide) ?_
    refine zs_goto (tgt := 12) C dX1_isEmpty_8 (by decide) ?_
    exact zs_zret C hr rfl dX1_isEmpty_12
  · refine zs_iconst (v := 0) C dX1_isEmpty_11 (by decide) ?_
    exact zs_zret C hr rfl dX1_isEmpty_12

def fn_X1_add (σ : zs_T) (t0 : Nat) (x1 : Int32) : zs_O := (if σ 30 t0 < Int32.ofNat (zc_len t0) then ((zs_u (zs_u σ (40 + t0) ((σ 30 t0).toNatClampNeg) x1) 30 t0 (((zs_u σ (40 + t0) ((σ 30 t0).toNatClampNeg) x1) 30 t0) + 1)), 0) else (σ, 0))
def ok_X1_add (σ : zs_T) (t0 : Nat) (x1 : Int32) : Prop := (σ 30 t0 < Int32.ofNat (zc_len t0) → vp_in (σ 30 t0) (zc_len t0) ∧ (True)) ∧ (¬ (σ 30 t0 < Int32.ofNat (zc_len t0)) → True)
set_option maxHeartbeats 4000000 in
set_option maxRecDepth 100000 in
theorem m_X1_add {l : Launch} {D : va_G} {cI cN cW : ClassId} {ad : Nat → Nat} (hJ : zs_J 88 ad) (d : Nat) (σ : zs_T) (t0 : Nat) (x1 : Int32) (ht0 : t0 < 8) (hok : ok_X1_add σ t0 x1) : zs_M l D vwCl (tysC cI cN cW) 88 ad (wC cI cN cW ad) yX1_add (Cond.code yX1_add cX1_add 2 none :: zw_G) (zw_rm (d)) [.ref (ad (72 + t0)), .int x1] zs_vv σ (fn_X1_add σ t0 x1) := by
  refine zs_ofZ (cc := cX1_add) (nL := 2) (ret := none) (lv0 := [(0, .ref (ad (72 + t0))), (1, .int x1)]) (by decide) rfl hJ (Nat.le_of_ble_eq_true rfl) rfl ?_
  intro p e s m args below meth c C hr
  unfold ok_X1_add at hok
  unfold fn_X1_add
  refine zs_aload_n (k := 0) C dX1_add_0 rfl rfl ?_
  refine gC_Num_length C ht0 lkX1_9 dX1_add_1 ?_
  refine zs_aload_n (k := 0) C dX1_add_4 rfl rfl ?_
  refine gC_Num_items C ht0 lkX1_15 dX1_add_5 ?_
  refine lC_items C ht0 dX1_add_8 ?_
  refine zs_icmp_ge (tgt := 32) C dX1_add_9 (by decide) (fun c_1 => ?_) (fun c_1 => ?_)
  · have hok := hok.1 c_1
    refine zs_aload_n (k := 0) C dX1_add_12 rfl rfl ?_
    refine gC_Num_items C ht0 lkX1_15 dX1_add_13 ?_
    refine zs_aload_n (k := 0) C dX1_add_16 rfl rfl ?_
    refine gC_Num_length C ht0 lkX1_9 dX1_add_17 ?_
    refine zs_iload_n (k := 1) C dX1_add_20 rfl rfl ?_
    obtain ⟨h_2, hok⟩ := hok
    refine sC_items C ht0 h_2 dX1_add_21 ?_
    refine zs_aload_n (k := 0) C dX1_add_22 rfl rfl ?_
    refine zs_dup C dX1_add_23 rfl ?_
    refine gC_Num_length C ht0 lkX1_9 dX1_add_24 ?_
    refine zs_iconst (v := 1) C dX1_add_27 (by decide) ?_
    refine zs_iadd C dX1_add_28 ?_
    refine pC_Num_length C ht0 lkX1_9 dX1_add_29 ?_
    exact zs_vret C hr dX1_add_32
  · have hok := hok.2 c_1
    exact zs_vret C hr dX1_add_32

def fr_X1_at (σ : zs_T) (t0 : Nat) (x1 : Int32) : Int32 := (if x1 < 0 then (-1) else (if x1 < σ 30 t0 then σ (40 + t0) (x1.toNatClampNeg) else (-1)))
def ok_X1_at (σ : zs_T) (t0 : Nat) (x1 : Int32) : Prop := (x1 < 0 → True) ∧ (¬ (x1 < 0) → (x1 < σ 30 t0 → vp_in x1 (zc_len t0) ∧ (True)) ∧ (¬ (x1 < σ 30 t0) → True))
set_option maxHeartbeats 4000000 in
set_option maxRecDepth 100000 in
theorem m_X1_at {l : Launch} {D : va_G} {cI cN cW : ClassId} {ad : Nat → Nat} (hJ : zs_J 88 ad) (d : Nat) (σ : zs_T) (t0 : Nat) (x1 : Int32) (ht0 : t0 < 8) (hok : ok_X1_at σ t0 x1) : zs_M l D vwCl (tysC cI cN cW) 88 ad (wC cI cN cW ad) yX1_at (Cond.code yX1_at cX1_at 2 (some .int) :: zw_G) (zw_rm (d)) [.ref (ad (72 + t0)), .int x1] zs_vi σ (σ, fr_X1_at σ t0 x1) := by
  refine zs_ofZ (cc := cX1_at) (nL := 2) (ret := (some .int)) (lv0 := [(0, .ref (ad (72 + t0))), (1, .int x1)]) (by decide) rfl hJ (Nat.le_of_ble_eq_true rfl) rfl ?_
  intro p e s m args below meth c C hr
  unfold ok_X1_at at hok
  unfold fr_X1_at
  refine zs_iload_n (k := 1) C dX1_at_0 rfl rfl ?_
  refine zs_if_ltP (tgt := 21) C dX1_at_1 (by decide) (fun c_1 => ?_) (fun c_1 => ?_)
  · have hok := hok.1 c_1
    refine zs_iconst (v := (-1)) C dX1_at_21 (by decide) ?_
    exact zs_iret C hr dX1_at_22
  · have hok := hok.2 c_1
    refine zs_iload_n (k := 1) C dX1_at_4 rfl rfl ?_
    refine zs_aload_n (k := 0) C dX1_at_5 rfl rfl ?_
    refine gC_Num_length C ht0 lkX1_9 dX1_at_6 ?_
    refine zs_icmp_geP (tgt := 21) C dX1_at_9 (by decide) (fun c_2 => ?_) (fun c_2 => ?_)
    · have hok := hok.1 c_2
      refine zs_aload_n (k := 0) C dX1_at_12 rfl rfl ?_
      refine gC_Num_items C ht0 lkX1_15 dX1_at_13 ?_
      refine zs_iload_n (k := 1) C dX1_at_16 rfl rfl ?_
      obtain ⟨h_3, hok⟩ := hok
      refine aC_items C ht0 h_3 dX1_at_17 ?_
      refine zs_goto (tgt := 22) C dX1_at_18 (by decide) ?_
      exact zs_iret C hr dX1_at_22
    · have hok := hok.2 c_2
      refine zs_iconst (v := (-1)) C dX1_at_21 (by decide) ?_
      exact zs_iret C hr dX1_at_22

def fn_X1_put (σ : zs_T) (t0 : Nat) (x1 : Int32) (x2 : Int32) : zs_O := (if x1 < 0 then (σ, 0) else (if x1 < σ 30 t0 then ((zs_u σ (40 + t0) (x1.toNatClampNeg) x2), 0) else (σ, 0)))
def ok_X1_put (σ : zs_T) (t0 : Nat) (x1 : Int32) (x2 : Int32) : Prop := (x1 < 0 → True) ∧ (¬ (x1 < 0) → (x1 < σ 30 t0 → vp_in x1 (zc_len t0) ∧ (True)) ∧ (¬ (x1 < σ 30 t0) → True))
set_option maxHeartbeats 4000000 in
set_option maxRecDepth 100000 in
theorem m_X1_put {l : Launch} {D : va_G} {cI cN cW : ClassId} {ad : Nat → Nat} (hJ : zs_J 88 ad) (d : Nat) (σ : zs_T) (t0 : Nat) (x1 : Int32) (x2 : Int32) (ht0 : t0 < 8) (hok : ok_X1_put σ t0 x1 x2) : zs_M l D vwCl (tysC cI cN cW) 88 ad (wC cI cN cW ad) yX1_put (Cond.code yX1_put cX1_put 3 none :: zw_G) (zw_rm (d)) [.ref (ad (72 + t0)), .int x1, .int x2] zs_vv σ (fn_X1_put σ t0 x1 x2) := by
  refine zs_ofZ (cc := cX1_put) (nL := 3) (ret := none) (lv0 := [(0, .ref (ad (72 + t0))), (1, .int x1), (2, .int x2)]) (by decide) rfl hJ (Nat.le_of_ble_eq_true rfl) rfl ?_
  intro p e s m args below meth c C hr
  unfold ok_X1_put at hok
  unfold fn_X1_put
  refine zs_iload_n (k := 1) C dX1_put_0 rfl rfl ?_
  refine zs_if_lt (tgt := 19) C dX1_put_1 (by decide) (fun c_1 => ?_) (fun c_1 => ?_)
  · have hok := hok.1 c_1
    exact zs_vret C hr dX1_put_19
  · have hok := hok.2 c_1
    refine zs_iload_n (k := 1) C dX1_put_4 rfl rfl ?_
    refine zs_aload_n (k := 0) C dX1_put_5 rfl rfl ?_
    refine gC_Num_length C ht0 lkX1_9 dX1_put_6 ?_
    refine zs_icmp_ge (tgt := 19) C dX1_put_9 (by decide) (fun c_2 => ?_) (fun c_2 => ?_)
    · have hok := hok.1 c_2
      refine zs_aload_n (k := 0) C dX1_put_12 rfl rfl ?_
      refine gC_Num_items C ht0 lkX1_15 dX1_put_13 ?_
      refine zs_iload_n (k := 1) C dX1_put_16 rfl rfl ?_
      refine zs_iload_n (k := 2) C dX1_put_17 rfl rfl ?_
      obtain ⟨h_3, hok⟩ := hok
      refine sC_items C ht0 h_3 dX1_put_18 ?_
      exact zs_vret C hr dX1_put_19
    · have hok := hok.2 c_2
      exact zs_vret C hr dX1_put_19

def fr_X1_top (σ : zs_T) (t0 : Nat) : Int32 := fr_X1_at σ t0 ((σ 30 t0) - 1)
def ok_X1_top (σ : zs_T) (t0 : Nat) : Prop := ok_X1_at σ t0 ((σ 30 t0) - 1) ∧ (True)
set_option maxHeartbeats 4000000 in
set_option maxRecDepth 100000 in
theorem m_X1_top {l : Launch} {D : va_G} {cI cN cW : ClassId} {ad : Nat → Nat} (hJ : zs_J 88 ad) (d : Nat) (σ : zs_T) (t0 : Nat) (ht0 : t0 < 8) (hok : ok_X1_top σ t0) : zs_M l D vwCl (tysC cI cN cW) 88 ad (wC cI cN cW ad) yX1_top (Cond.code yX1_top cX1_top 1 (some .int) :: zw_G) (zw_rm (d + 1)) [.ref (ad (72 + t0))] zs_vi σ (σ, fr_X1_top σ t0) := by
  refine zs_ofZ (cc := cX1_top) (nL := 1) (ret := (some .int)) (lv0 := [(0, .ref (ad (72 + t0)))]) (by decide) rfl hJ (Nat.le_of_ble_eq_true rfl) rfl ?_
  intro p e s m args below meth c C hr
  unfold ok_X1_top at hok
  unfold fr_X1_top
  refine zs_aload_n (k := 0) C dX1_top_0 rfl rfl ?_
  refine zs_aload_n (k := 0) C dX1_top_1 rfl rfl ?_
  refine gC_Num_length C ht0 lkX1_9 dX1_top_2 ?_
  refine zs_iconst (v := 1) C dX1_top_5 (by decide) ?_
  refine zs_isub C dX1_top_6 ?_
  obtain ⟨h_1, hok⟩ := hok
  refine zk_callVi (As := [.int ((σ 30 t0) - 1)]) (rest := []) C pk_X1_at (by decide) lkX1_19 (m_X1_at hJ d σ t0 ((σ 30 t0) - 1) ht0 h_1) (zc_recvNum ht0) rfl rfl rfl (Nat.le_of_ble_eq_true rfl) dX1_top_7 ?_
  exact zs_iret C hr dX1_top_10

def fn_X1_cutTo (σ : zs_T) (t0 : Nat) (x1 : Int32) : zs_O := (if x1 < 0 then (σ, 0) else (if x1 < σ 30 t0 then ((zs_u σ 30 t0 x1), 0) else (σ, 0)))
set_option maxHeartbeats 4000000 in
set_option maxRecDepth 100000 in
theorem m_X1_cutTo {l : Launch} {D : va_G} {cI cN cW : ClassId} {ad : Nat → Nat} (hJ : zs_J 88 ad) (d : Nat) (σ : zs_T) (t0 : Nat) (x1 : Int32) (ht0 : t0 < 8) : zs_M l D vwCl (tysC cI cN cW) 88 ad (wC cI cN cW ad) yX1_cutTo (Cond.code yX1_cutTo cX1_cutTo 2 none :: zw_G) (zw_rm (d)) [.ref (ad (72 + t0)), .int x1] zs_vv σ (fn_X1_cutTo σ t0 x1) := by
  refine zs_ofZ (cc := cX1_cutTo) (nL := 2) (ret := none) (lv0 := [(0, .ref (ad (72 + t0))), (1, .int x1)]) (by decide) rfl hJ (Nat.le_of_ble_eq_true rfl) rfl ?_
  intro p e s m args below meth c C hr
  unfold fn_X1_cutTo
  refine zs_iload_n (k := 1) C dX1_cutTo_0 rfl rfl ?_
  refine zs_if_lt (tgt := 17) C dX1_cutTo_1 (by decide) (fun c_1 => ?_) (fun c_1 => ?_)
  · exact zs_vret C hr dX1_cutTo_17
  · refine zs_iload_n (k := 1) C dX1_cutTo_4 rfl rfl ?_
    refine zs_aload_n (k := 0) C dX1_cutTo_5 rfl rfl ?_
    refine gC_Num_length C ht0 lkX1_9 dX1_cutTo_6 ?_
    refine zs_icmp_ge (tgt := 17) C dX1_cutTo_9 (by decide) (fun c_2 => ?_) (fun c_2 => ?_)
    · refine zs_aload_n (k := 0) C dX1_cutTo_12 rfl rfl ?_
      refine zs_iload_n (k := 1) C dX1_cutTo_13 rfl rfl ?_
      refine pC_Num_length C ht0 lkX1_9 dX1_cutTo_14 ?_
      exact zs_vret C hr dX1_cutTo_17
    · exact zs_vret C hr dX1_cutTo_17

def fn_X1_dropTop (σ : zs_T) (t0 : Nat) : zs_O := ((fn_X1_cutTo σ t0 ((σ 30 t0) - 1)).1, 0)
set_option maxHeartbeats 4000000 in
set_option maxRecDepth 100000 in
theorem m_X1_dropTop {l : Launch} {D : va_G} {cI cN cW : ClassId} {ad : Nat → Nat} (hJ : zs_J 88 ad) (d : Nat) (σ : zs_T) (t0 : Nat) (ht0 : t0 < 8) : zs_M l D vwCl (tysC cI cN cW) 88 ad (wC cI cN cW ad) yX1_dropTop (Cond.code yX1_dropTop cX1_dropTop 1 none :: zw_G) (zw_rm (d + 1)) [.ref (ad (72 + t0))] zs_vv σ (fn_X1_dropTop σ t0) := by
  refine zs_ofZ (cc := cX1_dropTop) (nL := 1) (ret := none) (lv0 := [(0, .ref (ad (72 + t0)))]) (by decide) rfl hJ (Nat.le_of_ble_eq_true rfl) rfl ?_
  intro p e s m args below meth c C hr
  unfold fn_X1_dropTop
  refine zs_aload_n (k := 0) C dX1_dropTop_0 rfl rfl ?_
  refine zs_aload_n (k := 0) C dX1_dropTop_1 rfl rfl ?_
  refine gC_Num_length C ht0 lkX1_9 dX1_dropTop_2 ?_
  refine zs_iconst (v := 1) C dX1_dropTop_5 (by decide) ?_
  refine zs_isub C dX1_dropTop_6 ?_
  refine zk_callVv (As := [.int ((σ 30 t0) - 1)]) (rest := []) C pk_X1_cutTo (by decide) lkX1_23 (m_X1_cutTo hJ d σ t0 ((σ 30 t0) - 1) ht0) (zc_recvNum ht0) rfl rfl rfl (Nat.le_of_ble_eq_true rfl) dX1_dropTop_7 ?_
  exact zs_vret C hr dX1_dropTop_10

def fn_X2_begin (σ : zs_T) (p0 : Nat) (x1 : Int32) (x2 : Int32) (x3 : Int32) : zs_O := ((zs_u (zs_u (zs_u (zs_u (zs_u σ 11 p0 x1) 12 p0 x2) 13 p0 x3) 24 p0 0) 10 p0 1), 0)
set_option maxHeartbeats 4000000 in
set_option maxRecDepth 100000 in
theorem m_X2_begin {l : Launch} {D : va_G} {cI cN cW : ClassId} {ad : Nat → Nat} (hJ : zs_J 88 ad) (d : Nat) (σ : zs_T) (p0 : Nat) (x1 : Int32) (x2 : Int32) (x3 : Int32) (hp0 : p0 < 4) : zs_M l D vwCl (tysC cI cN cW) 88 ad (wC cI cN cW ad) yX2_begin (Cond.code yX2_begin cX2_begin 4 none :: zw_G) (zw_rm (d)) [.ref (ad (68 + p0)), .int x1, .int x2, .int x3] zs_vv σ (fn_X2_begin σ p0 x1 x2 x3) := by
  refine zs_ofZ (cc := cX2_begin) (nL := 4) (ret := none) (lv0 := [(0, .ref (ad (68 + p0))), (1, .int x1), (2, .int x2), (3, .int x3)]) (by decide) rfl hJ (Nat.le_of_ble_eq_true rfl) rfl ?_
  intro p e s m args below meth c C hr
  unfold fn_X2_begin
  refine zs_aload_n (k := 0) C dX2_begin_0 rfl rfl ?_
  refine zs_iload_n (k := 1) C dX2_begin_1 rfl rfl ?_
  refine pC_Worker_operation C hp0 lkX2_15 dX2_begin_2 ?_
  refine zs_aload_n (k := 0) C dX2_begin_5 rfl rfl ?_
  refine zs_iload_n (k := 2) C dX2_begin_6 rfl rfl ?_
  refine pC_Worker_key C hp0 lkX2_18 dX2_begin_7 ?_
  refine zs_aload_n (k := 0) C dX2_begin_10 rfl rfl ?_
  refine zs_iload_n (k := 3) C dX2_begin_11 rfl rfl ?_
  refine pC_Worker_value C hp0 lkX2_21 dX2_begin_12 ?_
  refine zs_aload_n (k := 0) C dX2_begin_15 rfl rfl ?_
  refine zs_iconst (v := 0) C dX2_begin_16 (by decide) ?_
  refine pC_Worker_cleans C hp0 lkX2_64 (Or.inl rfl) dX2_begin_17 ?_
  refine zs_aload_n (k := 0) C dX2_begin_20 rfl rfl ?_
  refine zs_iconst (v := 1) C dX2_begin_21 (by decide) ?_
  refine pC_Worker_place C hp0 lkX2_9 dX2_begin_22 ?_
  exact zs_vret C hr dX2_begin_25

def fn_X2_rest (σ : zs_T) (p0 : Nat) (x1 : Int32) : zs_O := ((zs_u (zs_u (zs_u (zs_u (fn_X1_cutTo (zs_u (zs_u (zs_u σ 26 p0 x1) 14 p0 0) 15 p0 0) p0 0).1 18 p0 (-1)) 19 p0 (-1)) 20 p0 (-1)) 10 p0 0), 0)
set_option maxHeartbeats 4000000 in
set_option maxRecDepth 100000 in
theorem m_X2_rest {l : Launch} {D : va_G} {cI cN cW : ClassId} {ad : Nat → Nat} (hJ : zs_J 88 ad) (d : Nat) (σ : zs_T) (p0 : Nat) (x1 : Int32) (hp0 : p0 < 4) : zs_M l D vwCl (tysC cI cN cW) 88 ad (wC cI cN cW ad) yX2_rest (Cond.code yX2_rest cX2_rest 2 none :: zw_G) (zw_rm (d + 1)) [.ref (ad (68 + p0)), .int x1] zs_vv σ (fn_X2_rest σ p0 x1) := by
  refine zs_ofZ (cc := cX2_rest) (nL := 2) (ret := none) (lv0 := [(0, .ref (ad (68 + p0))), (1, .int x1)]) (by decide) rfl hJ (Nat.le_of_ble_eq_true rfl) rfl ?_
  intro p e s m args below meth c C hr
  unfold fn_X2_rest
  refine zs_aload_n (k := 0) C dX2_rest_0 rfl rfl ?_
  refine zs_iload_n (k := 1) C dX2_rest_1 rfl rfl ?_
  refine pC_Worker_latest C hp0 lkX2_70 dX2_rest_2 ?_
  refine zs_aload_n (k := 0) C dX2_rest_5 rfl rfl ?_
  refine zs_iconst (v := 0) C dX2_rest_6 (by decide) ?_
  refine pC_Worker_low C hp0 lkX2_24 dX2_rest_7 ?_
  refine zs_aload_n (k := 0) C dX2_rest_10 rfl rfl ?_
  refine zs_iconst (v := 0) C dX2_rest_11 (by decide) ?_
  refine pC_Worker_high C hp0 lkX2_27 dX2_rest_12 ?_
  refine zs_aload_n (k := 0) C dX2_rest_15 rfl rfl ?_
  refine gC_Worker_stack C hp0 lkX2_38 dX2_rest_16 ?_
  refine zs_iconst (v := 0) C dX2_rest_19 (by decide) ?_
  refine zk_callVv (As := [.int 0]) (rest := []) C pk_X1_cutTo (by decide) lkX2_76 (m_X1_cutTo hJ d (zs_u (zs_u (zs_u σ 26 p0 x1) 14 p0 0) 15 p0 0) p0 0 (zc_8a hp0)) (zc_recvNum (zc_8a hp0)) rfl rfl rfl (Nat.le_of_ble_eq_true rfl) dX2_rest_20 ?_
  refine zs_aload_n (k := 0) C dX2_rest_23 rfl rfl ?_
  refine zs_iconst (v := (-1)) C dX2_rest_24 (by decide) ?_
  refine pC_Worker_prev C hp0 lkX2_45 dX2_rest_25 ?_
  refine zs_aload_n (k := 0) C dX2_rest_28 rfl rfl ?_
  refine zs_iconst (v := (-1)) C dX2_rest_29 (by decide) ?_
  refine pC_Worker_cur C hp0 lkX2_48 dX2_rest_30 ?_
  refine zs_aload_n (k := 0) C dX2_rest_33 rfl rfl ?_
  refine zs_iconst (v := (-1)) C dX2_rest_34 (by decide) ?_
  refine pC_Worker_nxt C hp0 lkX2_51 dX2_rest_35 ?_
  refine zs_aload_n (k := 0) C dX2_rest_38 rfl rfl ?_
  refine zs_iconst (v := 0) C dX2_rest_39 (by decide) ?_
  refine pC_Worker_place C hp0 lkX2_9 dX2_rest_40 ?_
  exact zs_vret C hr dX2_rest_43

def fr_X3_isProcess (σ : zs_T) (x0 : Int32) : Int32 := (if x0 < 0 then 0 else (if x0 < 4 then 1 else 0))
set_option maxHeartbeats 4000000 in
set_option maxRecDepth 100000 in
theorem m_X3_isProcess {l : Launch} {D : va_G} {cI cN cW : ClassId} {ad : Nat → Nat} (hJ : zs_J 88 ad) (d : Nat) (σ : zs_T) (x0 : Int32) : zs_M l D vwCl (tysC cI cN cW) 88 ad (wC cI cN cW ad) yX3_isProcess (Cond.code yX3_isProcess cX3_isProcess 1 (some .boolean) :: zw_G) (zw_rm (d)) [.int x0] zs_vi σ (σ, fr_X3_isProcess σ x0) := by
  refine zs_ofZ (cc := cX3_isProcess) (nL := 1) (ret := (some .boolean)) (lv0 := [(0, .int x0)]) (by decide) rfl hJ (Nat.le_of_ble_eq_true rfl) rfl ?_
  intro p e s m args below meth c C hr
  unfold fr_X3_isProcess
  refine zs_iload_n (k := 0) C dX3_isProcess_0 rfl rfl ?_
  refine zs_if_ltP (tgt := 13) C dX3_isProcess_1 (by decide) (fun c_1 => ?_) (fun c_1 => ?_)
  · refine zs_iconst (v := 0) C dX3_isProcess_13 (by decide) ?_
    exact zs_zret C hr rfl dX3_isProcess_14
  · refine zs_iload_n (k := 0) C dX3_isProcess_4 rfl rfl ?_
    refine zs_iconst (v := 4) C dX3_isProcess_5 (by decide) ?_
    refine zs_icmp_geP (tgt := 13) C dX3_isProcess_6 (by decide) (fun c_2 => ?_) (fun c_2 => ?_)
    · refine zs_iconst (v := 1) C dX3_isProcess_9 (by decide) ?_
      refine zs_goto (tgt := 14) C dX3_isProcess_10 (by decide) ?_
      exact zs_zret C hr rfl dX3_isProcess_14
    · refine zs_iconst (v := 0) C dX3_isProcess_13 (by decide) ?_
      exact zs_zret C hr rfl dX3_isProcess_14

def fr_X3_isNode (σ : zs_T) (x0 : Int32) : Int32 := (if x0 < 0 then 0 else (if x0 < 64 then 1 else 0))
set_option maxHeartbeats 4000000 in
set_option maxRecDepth 100000 in
theorem m_X3_isNode {l : Launch} {D : va_G} {cI cN cW : ClassId} {ad : Nat → Nat} (hJ : zs_J 88 ad) (d : Nat) (σ : zs_T) (x0 : Int32) : zs_M l D vwCl (tysC cI cN cW) 88 ad (wC cI cN cW ad) yX3_isNode (Cond.code yX3_isNode cX3_isNode 1 (some .boolean) :: zw_G) (zw_rm (d)) [.int x0] zs_vi σ (σ, fr_X3_isNode σ x0) := by
  refine zs_ofZ (cc := cX3_isNode) (nL := 1) (ret := (some .boolean)) (lv0 := [(0, .int x0)]) (by decide) rfl hJ (Nat.le_of_ble_eq_true rfl) rfl ?_
  intro p e s m args below meth c C hr
  unfold fr_X3_isNode
  refine zs_iload_n (k := 0) C dX3_isNode_0 rfl rfl ?_
  refine zs_if_ltP (tgt := 14) C dX3_isNode_1 (by decide) (fun c_1 => ?_) (fun c_1 => ?_)
  · refine zs_iconst (v := 0) C dX3_isNode_14 (by decide) ?_
    exact zs_zret C hr rfl dX3_isNode_15
  · refine zs_iload_n (k := 0) C dX3_isNode_4 rfl rfl ?_
    refine zs_bipush (v := 64) C dX3_isNode_5 (by decide) ?_
    refine zs_icmp_geP (tgt := 14) C dX3_isNode_7 (by decide) (fun c_2 => ?_) (fun c_2 => ?_)
    · refine zs_iconst (v := 1) C dX3_isNode_10 (by decide) ?_
      refine zs_goto (tgt := 15) C dX3_isNode_11 (by decide) ?_
      exact zs_zret C hr rfl dX3_isNode_15
    · refine zs_iconst (v := 0) C dX3_isNode_14 (by decide) ?_
      exact zs_zret C hr rfl dX3_isNode_15

def fr_X3_isBucket (σ : zs_T) (x0 : Int32) : Int32 := (if x0 < 0 then 0 else (if x0 < 16 then 1 else 0))
set_option maxHeartbeats 4000000 in
set_option maxRecDepth 100000 in
theorem m_X3_isBucket {l : Launch} {D : va_G} {cI cN cW : ClassId} {ad : Nat → Nat} (hJ : zs_J 88 ad) (d : Nat) (σ : zs_T) (x0 : Int32) : zs_M l D vwCl (tysC cI cN cW) 88 ad (wC cI cN cW ad) yX3_isBucket (Cond.code yX3_isBucket cX3_isBucket 1 (some .boolean) :: zw_G) (zw_rm (d)) [.int x0] zs_vi σ (σ, fr_X3_isBucket σ x0) := by
  refine zs_ofZ (cc := cX3_isBucket) (nL := 1) (ret := (some .boolean)) (lv0 := [(0, .int x0)]) (by decide) rfl hJ (Nat.le_of_ble_eq_true rfl) rfl ?_
  intro p e s m args below meth c C hr
  unfold fr_X3_isBucket
  refine zs_iload_n (k := 0) C dX3_isBucket_0 rfl rfl ?_
  refine zs_if_ltP (tgt := 14) C dX3_isBucket_1 (by decide) (fun c_1 => ?_) (fun c_1 => ?_)
  · refine zs_iconst (v := 0) C dX3_isBucket_14 (by decide) ?_
    exact zs_zret C hr rfl dX3_isBucket_15
  · refine zs_iload_n (k := 0) C dX3_isBucket_4 rfl rfl ?_
    refine zs_bipush (v := 16) C dX3_isBucket_5 (by decide) ?_
    refine zs_icmp_geP (tgt := 14) C dX3_isBucket_7 (by decide) (fun c_2 => ?_) (fun c_2 => ?_)
    · refine zs_iconst (v := 1) C dX3_isBucket_10 (by decide) ?_
      refine zs_goto (tgt := 15) C dX3_isBucket_11 (by decide) ?_
      exact zs_zret C hr rfl dX3_isBucket_15
    · refine zs_iconst (v := 0) C dX3_isBucket_14 (by decide) ?_
      exact zs_zret C hr rfl dX3_isBucket_15

theorem zc_inR {x : Int32} {n : Nat} {b : Int32} (hb : b.toInt = n) (h0 : ¬ x < 0) (h1 : x < b) : vp_in x n := by
  rw [vp_in_iff]
  rw [Int32.lt_iff_toInt_lt] at h0 h1
  have e0 : (0 : Int32).toInt = 0 := rfl
  omega
theorem zc_inNode {σ : zs_T} {x : Int32} (h : ¬ fr_X3_isNode σ x = 0) : vp_in x 64 := by
  unfold fr_X3_isNode at h
  by_cases h0 : x < 0
  · simp [h0] at h
  · by_cases h1 : x < 64
    · exact zc_inR rfl h0 h1
    · simp [h0, h1] at h
theorem zc_inProc {σ : zs_T} {x : Int32} (h : ¬ fr_X3_isProcess σ x = 0) : vp_in x 4 := by
  unfold fr_X3_isProcess at h
  by_cases h0 : x < 0
  · simp [h0] at h
  · by_cases h1 : x < 4
    · exact zc_inR rfl h0 h1
    · simp [h0, h1] at h
theorem zc_inBk {σ : zs_T} {x : Int32} (h : ¬ fr_X3_isBucket σ x = 0) : vp_in x 16 := by
  unfold fr_X3_isBucket at h
  by_cases h0 : x < 0
  · simp [h0] at h
  · by_cases h1 : x < 16
    · exact zc_inR rfl h0 h1
    · simp [h0, h1] at h

def fr_X3_hashOf (σ : zs_T) (x0 : Int32) : Int32 := (x0 * 167) - (x0 * 167) / 256 * 256
set_option maxHeartbeats 4000000 in
set_option maxRecDepth 100000 in
theorem m_X3_hashOf {l : Launch} {D : va_G} {cI cN cW : ClassId} {ad : Nat → Nat} (hJ : zs_J 88 ad) (d : Nat) (σ : zs_T) (x0 : Int32) : zs_M l D vwCl (tysC cI cN cW) 88 ad (wC cI cN cW ad) yX3_hashOf (Cond.code yX3_hashOf cX3_hashOf 1 (some .int) :: zw_G) (zw_rm (d)) [.int x0] zs_vi σ (σ, fr_X3_hashOf σ x0) := by
  refine zs_ofZ (cc := cX3_hashOf) (nL := 1) (ret := (some .int)) (lv0 := [(0, .int x0)]) (by decide) rfl hJ (Nat.le_of_ble_eq_true rfl) rfl ?_
  intro p e s m args below meth c C hr
  unfold fr_X3_hashOf
  refine zs_iload_n (k := 0) C dX3_hashOf_0 rfl rfl ?_
  refine zs_sipush (v := 167) C dX3_hashOf_1 (by decide) ?_
  refine zs_imul C dX3_hashOf_4 ?_
  refine zs_sipush (v := 256) C dX3_hashOf_5 (by decide) ?_
  refine zs_irem C dX3_hashOf_8 (by decide) ?_
  exact zs_iret C hr dX3_hashOf_9

def fr_X3_turned_L4 : Nat → zs_T → Int32 → Int32 → Int32 → Int32
  | 0, σ, _, _, _ => 0
  | n + 1, σ, x0, x1, x2 => (if x2 < 8 then (fr_X3_turned_L4 n σ x0 ((2 * x1) + ((x0 >>> (x2 &&& 31)) &&& 1)) (x2 + 1)) else x1)
def ok_X3_turned_L4 : Nat → zs_T → Int32 → Int32 → Int32 → Prop
  | 0, _, _, _, _ => False
  | n + 1, σ, x0, x1, x2 => (x2 < 8 → (ok_X3_turned_L4 n σ x0 ((2 * x1) + ((x0 >>> (x2 &&& 31)) &&& 1)) (x2 + 1))) ∧ (¬ (x2 < 8) → True)
set_option maxHeartbeats 4000000 in
set_option maxRecDepth 100000 in
theorem lp_X3_turned_L4 {p : Program} {l : Launch} {e : Env} {s : State} {m : MethodId} {args : Array Value} {below : List Frame} {meth : Method} {c : Code} {D : va_G} {cI cN cW : ClassId} {ad : Nat → Nat} (C : zs_C p s m args meth c cX3_turned 3 (Cond.code yX3_turned cX3_turned 3 (some .int) :: zw_G) yX3_turned.cls D vwCl (tysC cI cN cW) 88 ad) (hr : meth.sig.returnType = (some .int)) (d : Nat) : ∀ (n : Nat) (σ : zs_T) (x0 : Int32) (x1 : Int32) (x2 : Int32), ok_X3_turned_L4 n σ x0 x1 x2 → zs_Z p l e (zw_rm (d)) s m args below meth c D vwCl 88 ad (wC cI cN cW ad) 3 zs_vi (σ, fr_X3_turned_L4 n σ x0 x1 x2) σ 4 [(0, .int x0), (1, .int x1), (2, .int x2)] [] := by
  have hJ := C.2.2.1
  intro n
  induction n with
  | zero => intro σ x0 x1 x2  hok; exact hok.elim
  | succ n ih =>
    intro σ x0 x1 x2  hok
    rw [ok_X3_turned_L4] at hok
    rw [fr_X3_turned_L4]
    refine zs_iload_n (k := 2) C dX3_turned_4 rfl rfl ?_
    refine zs_bipush (v := 8) C dX3_turned_5 (by decide) ?_
    refine zs_icmp_geP (tgt := 26) C dX3_turned_7 (by decide) (fun c_1 => ?_) (fun c_1 => ?_)
    · have hok := hok.1 c_1
      refine zs_iconst (v := 2) C dX3_turned_10 (by decide) ?_
      refine zs_iload_n (k := 1) C dX3_turned_11 rfl rfl ?_
      refine zs_imul C dX3_turned_12 ?_
      refine zs_iload_n (k := 0) C dX3_turned_13 rfl rfl ?_
      refine zs_iload_n (k := 2) C dX3_turned_14 rfl rfl ?_
      refine zs_ishr C dX3_turned_15 ?_
      refine zs_iconst (v := 1) C dX3_turned_16 (by decide) ?_
      refine zs_iand C dX3_turned_17 ?_
      refine zs_iadd C dX3_turned_18 ?_
      refine zs_istore_n (lv' := [(1, .int ((2 * x1) + ((x0 >>> (x2 &&& 31)) &&& 1))), (0, .int x0), (2, .int x2)]) C dX3_turned_19 rfl (by decide) rfl ?_
      refine zs_iinc (k := 2) (v := x2 + 1) (lv' := [(2, .int (x2 + 1)), (1, .int ((2 * x1) + ((x0 >>> (x2 &&& 31)) &&& 1))), (0, .int x0)]) C dX3_turned_20 rfl rfl (by decide) rfl ?_
      refine zs_goto (tgt := 4) C dX3_turned_23 (by decide) ?_
      exact zs_sub [2, 1, 0] rfl (ih σ x0 ((2 * x1) + ((x0 >>> (x2 &&& 31)) &&& 1)) (x2 + 1)  hok)
    · have hok := hok.2 c_1
      refine zs_iload_n (k := 1) C dX3_turned_26 rfl rfl ?_
      exact zs_iret C hr dX3_turned_27
def fr_X3_turned (σ : zs_T) (x0 : Int32) : Int32 := (fr_X3_turned_L4 9 σ x0 0 0)
def ok_X3_turned (σ : zs_T) (x0 : Int32) : Prop := (ok_X3_turned_L4 9 σ x0 0 0)
set_option maxHeartbeats 4000000 in
set_option maxRecDepth 100000 in
theorem m_X3_turned {l : Launch} {D : va_G} {cI cN cW : ClassId} {ad : Nat → Nat} (hJ : zs_J 88 ad) (d : Nat) (σ : zs_T) (x0 : Int32) (hok : ok_X3_turned σ x0) : zs_M l D vwCl (tysC cI cN cW) 88 ad (wC cI cN cW ad) yX3_turned (Cond.code yX3_turned cX3_turned 3 (some .int) :: zw_G) (zw_rm (d)) [.int x0] zs_vi σ (σ, fr_X3_turned σ x0) := by
  refine zs_ofZ (cc := cX3_turned) (nL := 3) (ret := (some .int)) (lv0 := [(0, .int x0)]) (by decide) rfl hJ (Nat.le_of_ble_eq_true rfl) rfl ?_
  intro p e s m args below meth c C hr
  unfold ok_X3_turned at hok
  unfold fr_X3_turned
  refine zs_iconst (v := 0) C dX3_turned_0 (by decide) ?_
  refine zs_istore_n (lv' := [(1, .int 0), (0, .int x0)]) C dX3_turned_1 rfl (by decide) rfl ?_
  refine zs_iconst (v := 0) C dX3_turned_2 (by decide) ?_
  refine zs_istore_n (lv' := [(2, .int 0), (1, .int 0), (0, .int x0)]) C dX3_turned_3 rfl (by decide) rfl ?_
  exact zs_sub [2, 1, 0] rfl (lp_X3_turned_L4 C hr d 9 σ x0 0 0  hok)

def fr_X3_orderOfKey (σ : zs_T) (x0 : Int32) : Int32 := (2 * (fr_X3_turned σ (fr_X3_hashOf σ x0))) + 1
def ok_X3_orderOfKey (σ : zs_T) (x0 : Int32) : Prop := ok_X3_turned σ (fr_X3_hashOf σ x0) ∧ (True)
set_option maxHeartbeats 4000000 in
set_option maxRecDepth 100000 in
theorem m_X3_orderOfKey {l : Launch} {D : va_G} {cI cN cW : ClassId} {ad : Nat → Nat} (hJ : zs_J 88 ad) (d : Nat) (σ : zs_T) (x0 : Int32) (hok : ok_X3_orderOfKey σ x0) : zs_M l D vwCl (tysC cI cN cW) 88 ad (wC cI cN cW ad) yX3_orderOfKey (Cond.code yX3_orderOfKey cX3_orderOfKey 1 (some .int) :: zw_G) (zw_rm (d + 1)) [.int x0] zs_vi σ (σ, fr_X3_orderOfKey σ x0) := by
  refine zs_ofZ (cc := cX3_orderOfKey) (nL := 1) (ret := (some .int)) (lv0 := [(0, .int x0)]) (by decide) rfl hJ (Nat.le_of_ble_eq_true rfl) rfl ?_
  intro p e s m args below meth c C hr
  unfold ok_X3_orderOfKey at hok
  unfold fr_X3_orderOfKey
  refine zs_iconst (v := 2) C dX3_orderOfKey_0 (by decide) ?_
  refine zs_iload_n (k := 0) C dX3_orderOfKey_1 rfl rfl ?_
  refine zk_callSi (As := [.int x0]) (rest := [.int 2]) C pk_X3_hashOf (by decide) lkX3_181 (m_X3_hashOf hJ d σ x0) rfl rfl (Nat.le_of_ble_eq_true rfl) dX3_orderOfKey_2 ?_
  obtain ⟨h_1, hok⟩ := hok
  refine zk_callSi (As := [.int (fr_X3_hashOf σ x0)]) (rest := [.int 2]) C pk_X3_turned (by decide) lkX3_290 (m_X3_turned hJ d σ (fr_X3_hashOf σ x0) h_1) rfl rfl (Nat.le_of_ble_eq_true rfl) dX3_orderOfKey_5 ?_
  refine zs_imul C dX3_orderOfKey_8 ?_
  refine zs_iconst (v := 1) C dX3_orderOfKey_9 (by decide) ?_
  refine zs_iadd C dX3_orderOfKey_10 ?_
  exact zs_iret C hr dX3_orderOfKey_11

def fr_X3_orderOfBucket (σ : zs_T) (x0 : Int32) : Int32 := 2 * (fr_X3_turned σ x0)
def ok_X3_orderOfBucket (σ : zs_T) (x0 : Int32) : Prop := ok_X3_turned σ x0 ∧ (True)
set_option maxHeartbeats 4000000 in
set_option maxRecDepth 100000 in
theorem m_X3_orderOfBucket {l : Launch} {D : va_G} {cI cN cW : ClassId} {ad : Nat → Nat} (hJ : zs_J 88 ad) (d : Nat) (σ : zs_T) (x0 : Int32) (hok : ok_X3_orderOfBucket σ x0) : zs_M l D vwCl (tysC cI cN cW) 88 ad (wC cI cN cW ad) yX3_orderOfBucket (Cond.code yX3_orderOfBucket cX3_orderOfBucket 1 (some .int) :: zw_G) (zw_rm (d + 1)) [.int x0] zs_vi σ (σ, fr_X3_orderOfBucket σ x0) := by
  refine zs_ofZ (cc := cX3_orderOfBucket) (nL := 1) (ret := (some .int)) (lv0 := [(0, .int x0)]) (by decide) rfl hJ (Nat.le_of_ble_eq_true rfl) rfl ?_
  intro p e s m args below meth c C hr
  unfold ok_X3_orderOfBucket at hok
  unfold fr_X3_orderOfBucket
  refine zs_iconst (v := 2) C dX3_orderOfBucket_0 (by decide) ?_
  refine zs_iload_n (k := 0) C dX3_orderOfBucket_1 rfl rfl ?_
  obtain ⟨h_1, hok⟩ := hok
  refine zk_callSi (As := [.int x0]) (rest := [.int 2]) C pk_X3_turned (by decide) lkX3_290 (m_X3_turned hJ d σ x0 h_1) rfl rfl (Nat.le_of_ble_eq_true rfl) dX3_orderOfBucket_2 ?_
  refine zs_imul C dX3_orderOfBucket_5 ?_
  exact zs_iret C hr dX3_orderOfBucket_6

def fr_X3_wantedOrder (σ : zs_T) (p0 : Nat) : Int32 := (if fr_X1_isEmpty σ p0 = 0 then fr_X3_orderOfBucket σ (fr_X1_top σ p0) else fr_X3_orderOfKey σ (σ 12 p0))
def ok_X3_wantedOrder (σ : zs_T) (p0 : Nat) : Prop := (fr_X1_isEmpty σ p0 = 0 → ok_X1_top σ p0 ∧ (ok_X3_orderOfBucket σ (fr_X1_top σ p0) ∧ (True))) ∧ (¬ (fr_X1_isEmpty σ p0 = 0) → ok_X3_orderOfKey σ (σ 12 p0) ∧ (True))
set_option maxHeartbeats 4000000 in
set_option maxRecDepth 100000 in
theorem m_X3_wantedOrder {l : Launch} {D : va_G} {cI cN cW : ClassId} {ad : Nat → Nat} (hJ : zs_J 88 ad) (d : Nat) (σ : zs_T) (p0 : Nat) (hp0 : p0 < 4) (hok : ok_X3_wantedOrder σ p0) : zs_M l D vwCl (tysC cI cN cW) 88 ad (wC cI cN cW ad) yX3_wantedOrder (Cond.code yX3_wantedOrder cX3_wantedOrder 1 (some .int) :: zw_G) (zw_rm (d + 2)) [.ref (ad (68 + p0))] zs_vi σ (σ, fr_X3_wantedOrder σ p0) := by
  refine zs_ofZ (cc := cX3_wantedOrder) (nL := 1) (ret := (some .int)) (lv0 := [(0, .ref (ad (68 + p0)))]) (by decide) rfl hJ (Nat.le_of_ble_eq_true rfl) rfl ?_
  intro p e s m args below meth c C hr
  unfold ok_X3_wantedOrder at hok
  unfold fr_X3_wantedOrder
  refine zs_aload_n (k := 0) C dX3_wantedOrder_0 rfl rfl ?_
  refine gC_Worker_stack C hp0 lkX3_86 dX3_wantedOrder_1 ?_
  refine zk_callVi (As := []) (rest := []) C pk_X1_isEmpty (by decide) lkX3_222 (m_X1_isEmpty hJ (d + 1) σ p0 (zc_8a hp0)) (zc_recvNum (zc_8a hp0)) rfl rfl rfl (Nat.le_of_ble_eq_true rfl) dX3_wantedOrder_4 ?_
  refine zs_if_eqP (tgt := 20) C dX3_wantedOrder_7 (by decide) (fun c_1 => ?_) (fun c_1 => ?_)
  · have hok := hok.1 c_1
    refine zs_aload_n (k := 0) C dX3_wantedOrder_20 rfl rfl ?_
    refine gC_Worker_stack C hp0 lkX3_86 dX3_wantedOrder_21 ?_
    obtain ⟨h_2, hok⟩ := hok
    refine zk_callVi (As := []) (rest := []) C pk_X1_top (by decide) lkX3_259 (m_X1_top hJ d σ p0 (zc_8a hp0) h_2) (zc_recvNum (zc_8a hp0)) rfl rfl rfl (Nat.le_of_ble_eq_true rfl) dX3_wantedOrder_24 ?_
    obtain ⟨h_3, hok⟩ := hok
    refine zk_callSi (As := [.int (fr_X1_top σ p0)]) (rest := []) C pk_X3_orderOfBucket (by decide) lkX3_37 (m_X3_orderOfBucket hJ d σ (fr_X1_top σ p0) h_3) rfl rfl (Nat.le_of_ble_eq_true rfl) dX3_wantedOrder_27 ?_
    exact zs_iret C hr dX3_wantedOrder_30
  · have hok := hok.2 c_1
    refine zs_aload_n (k := 0) C dX3_wantedOrder_10 rfl rfl ?_
    refine gC_Worker_key C hp0 lkX3_180 dX3_wantedOrder_11 ?_
    obtain ⟨h_4, hok⟩ := hok
    refine zk_callSi (As := [.int (σ 12 p0)]) (rest := []) C pk_X3_orderOfKey (by decide) lkX3_287 (m_X3_orderOfKey hJ d σ (σ 12 p0) h_4) rfl rfl (Nat.le_of_ble_eq_true rfl) dX3_wantedOrder_14 ?_
    refine zs_goto (tgt := 30) C dX3_wantedOrder_17 (by decide) ?_
    exact zs_iret C hr dX3_wantedOrder_30

def fr_X3_parentOf_L3 : Nat → zs_T → Int32 → Int32 → Int32
  | 0, σ, _, _ => 0
  | n + 1, σ, x0, x1 => (if 0 < x1 then (if x0 &&& x1 = 0 then (fr_X3_parentOf_L3 n σ x0 (x1 / 2)) else x0 - x1) else 0)
def ok_X3_parentOf_L3 : Nat → zs_T → Int32 → Int32 → Prop
  | 0, _, _, _ => False
  | n + 1, σ, x0, x1 => (0 < x1 → (x0 &&& x1 = 0 → (ok_X3_parentOf_L3 n σ x0 (x1 / 2))) ∧ (¬ (x0 &&& x1 = 0) → True)) ∧ (¬ (0 < x1) → True)
set_option maxHeartbeats 4000000 in
set_option maxRecDepth 100000 in
theorem lp_X3_parentOf_L3 {p : Program} {l : Launch} {e : Env} {s : State} {m : MethodId} {args : Array Value} {below : List Frame} {meth : Method} {c : Code} {D : va_G} {cI cN cW : ClassId} {ad : Nat → Nat} (C : zs_C p s m args meth c cX3_parentOf 2 (Cond.code yX3_parentOf cX3_parentOf 2 (some .int) :: zw_G) yX3_parentOf.cls D vwCl (tysC cI cN cW) 88 ad) (hr : meth.sig.returnType = (some .int)) (d : Nat) : ∀ (n : Nat) (σ : zs_T) (x0 : Int32) (x1 : Int32), ok_X3_parentOf_L3 n σ x0 x1 → zs_Z p l e (zw_rm (d)) s m args below meth c D vwCl 88 ad (wC cI cN cW ad) 2 zs_vi (σ, fr_X3_parentOf_L3 n σ x0 x1) σ 3 [(0, .int x0), (1, .int x1)] [] := by
  have hJ := C.2.2.1
  intro n
  induction n with
  | zero => intro σ x0 x1  hok; exact hok.elim
  | succ n ih =>
    intro σ x0 x1  hok
    rw [ok_X3_parentOf_L3] at hok
    rw [fr_X3_parentOf_L3]
    refine zs_iload_n (k := 1) C dX3_parentOf_3 rfl rfl ?_
    refine zs_if_leP (tgt := 24) C dX3_parentOf_4 (by decide) (fun c_1 => ?_) (fun c_1 => ?_)
    · have hok := hok.1 c_1
      refine zs_iload_n (k := 0) C dX3_parentOf_7 rfl rfl ?_
      refine zs_iload_n (k := 1) C dX3_parentOf_8 rfl rfl ?_
      refine zs_iand C dX3_parentOf_9 ?_
      refine zs_if_eqP (tgt := 17) C dX3_parentOf_10 (by decide) (fun c_2 => ?_) (fun c_2 => ?_)
      · have hok := hok.1 c_2
        refine zs_iload_n (k := 1) C dX3_parentOf_17 rfl rfl ?_
        refine zs_iconst (v := 2) C dX3_parentOf_18 (by decide) ?_
        refine zs_idiv C dX3_parentOf_19 (by decide) ?_
        refine zs_istore_n (lv' := [(1, .int (x1 / 2)), (0, .int x0)]) C dX3_parentOf_20 rfl (by decide) rfl ?_
        refine zs_goto (tgt := 3) C dX3_parentOf_21 (by decide) ?_
        exact zs_sub [1, 0] rfl (ih σ x0 (x1 / 2)  hok)
      · have hok := hok.2 c_2
        refine zs_iload_n (k := 0) C dX3_parentOf_13 rfl rfl ?_
        refine zs_iload_n (k := 1) C dX3_parentOf_14 rfl rfl ?_
        refine zs_isub C dX3_parentOf_15 ?_
        exact zs_iret C hr dX3_parentOf_16
    · have hok := hok.2 c_1
      refine zs_iconst (v := 0) C dX3_parentOf_24 (by decide) ?_
      exact zs_iret C hr dX3_parentOf_25
def fr_X3_parentOf (σ : zs_T) (x0 : Int32) : Int32 := (fr_X3_parentOf_L3 5 σ x0 8)
def ok_X3_parentOf (σ : zs_T) (x0 : Int32) : Prop := (ok_X3_parentOf_L3 5 σ x0 8)
set_option maxHeartbeats 4000000 in
set_option maxRecDepth 100000 in
theorem m_X3_parentOf {l : Launch} {D : va_G} {cI cN cW : ClassId} {ad : Nat → Nat} (hJ : zs_J 88 ad) (d : Nat) (σ : zs_T) (x0 : Int32) (hok : ok_X3_parentOf σ x0) : zs_M l D vwCl (tysC cI cN cW) 88 ad (wC cI cN cW ad) yX3_parentOf (Cond.code yX3_parentOf cX3_parentOf 2 (some .int) :: zw_G) (zw_rm (d)) [.int x0] zs_vi σ (σ, fr_X3_parentOf σ x0) := by
  refine zs_ofZ (cc := cX3_parentOf) (nL := 2) (ret := (some .int)) (lv0 := [(0, .int x0)]) (by decide) rfl hJ (Nat.le_of_ble_eq_true rfl) rfl ?_
  intro p e s m args below meth c C hr
  unfold ok_X3_parentOf at hok
  unfold fr_X3_parentOf
  refine zs_bipush (v := 8) C dX3_parentOf_0 (by decide) ?_
  refine zs_istore_n (lv' := [(1, .int 8), (0, .int x0)]) C dX3_parentOf_2 rfl (by decide) rfl ?_
  exact zs_sub [1, 0] rfl (lp_X3_parentOf_L3 C hr d 5 σ x0 8  hok)
