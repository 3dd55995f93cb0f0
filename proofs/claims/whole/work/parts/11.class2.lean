def fr_X3_nextOf (σ : zs_T) (x1 : Int32) : Int32 := (if fr_X3_isNode σ x1 = 0 then (-1) else σ 2 x1.toNatClampNeg)
set_option maxHeartbeats 4000000 in
set_option maxRecDepth 100000 in
theorem m_X3_nextOf {l : Launch} {D : va_G} {cI cN cW : ClassId} {ad : Nat → Nat} (hJ : zs_J 88 ad) (d : Nat) (σ : zs_T) (x1 : Int32) : zs_M l D vwCl (tysC cI cN cW) 88 ad (wC cI cN cW ad) yX3_nextOf (Cond.code yX3_nextOf cX3_nextOf 2 (some .int) :: zw_G) (zw_rm (d + 1)) [.ref (ad 0), .int x1] zs_vi σ (σ, fr_X3_nextOf σ x1) := by
  refine zs_ofZ (cc := cX3_nextOf) (nL := 2) (ret := (some .int)) (lv0 := [(0, .ref (ad 0)), (1, .int x1)]) (by decide) rfl hJ (Nat.le_of_ble_eq_true rfl) rfl ?_
  intro p e s m args below meth c C hr
  unfold fr_X3_nextOf
  refine zs_iload_n (k := 1) C dX3_nextOf_0 rfl rfl ?_
  refine zk_callSi (As := [.int x1]) (rest := []) C pk_X3_isNode (by decide) lkX3_103 (m_X3_isNode hJ d σ x1) rfl rfl (Nat.le_of_ble_eq_true rfl) dX3_nextOf_1 ?_
  refine zs_if_eqP (tgt := 19) C dX3_nextOf_4 (by decide) (fun c_1 => ?_) (fun c_1 => ?_)
  · refine zs_iconst (v := (-1)) C dX3_nextOf_19 (by decide) ?_
    exact zs_iret C hr dX3_nextOf_20
  · refine zs_aload_n (k := 0) C dX3_nextOf_7 rfl rfl ?_
    refine gC_S_nodes C lkX3_11 dX3_nextOf_8 ?_
    refine zs_iload_n (k := 1) C dX3_nextOf_11 rfl rfl ?_
    refine aC_nodes C (zc_inNode c_1) dX3_nextOf_12 ?_
    refine gC_Node_next C (zs_lt (zc_inNode c_1)) lkX3_114 dX3_nextOf_13 ?_
    refine zs_goto (tgt := 20) C dX3_nextOf_16 (by decide) ?_
    exact zs_iret C hr dX3_nextOf_20

def fr_X3_valueOf (σ : zs_T) (x1 : Int32) : Int32 := (if fr_X3_isNode σ x1 = 0 then (-1) else σ 5 x1.toNatClampNeg)
set_option maxHeartbeats 4000000 in
set_option maxRecDepth 100000 in
theorem m_X3_valueOf {l : Launch} {D : va_G} {cI cN cW : ClassId} {ad : Nat → Nat} (hJ : zs_J 88 ad) (d : Nat) (σ : zs_T) (x1 : Int32) : zs_M l D vwCl (tysC cI cN cW) 88 ad (wC cI cN cW ad) yX3_valueOf (Cond.code yX3_valueOf cX3_valueOf 2 (some .int) :: zw_G) (zw_rm (d + 1)) [.ref (ad 0), .int x1] zs_vi σ (σ, fr_X3_valueOf σ x1) := by
  refine zs_ofZ (cc := cX3_valueOf) (nL := 2) (ret := (some .int)) (lv0 := [(0, .ref (ad 0)), (1, .int x1)]) (by decide) rfl hJ (Nat.le_of_ble_eq_true rfl) rfl ?_
  intro p e s m args below meth c C hr
  unfold fr_X3_valueOf
  refine zs_iload_n (k := 1) C dX3_valueOf_0 rfl rfl ?_
  refine zk_callSi (As := [.int x1]) (rest := []) C pk_X3_isNode (by decide) lkX3_103 (m_X3_isNode hJ d σ x1) rfl rfl (Nat.le_of_ble_eq_true rfl) dX3_valueOf_1 ?_
  refine zs_if_eqP (tgt := 19) C dX3_valueOf_4 (by decide) (fun c_1 => ?_) (fun c_1 => ?_)
  · refine zs_iconst (v := (-1)) C dX3_valueOf_19 (by decide) ?_
    exact zs_iret C hr dX3_valueOf_20
  · refine zs_aload_n (k := 0) C dX3_valueOf_7 rfl rfl ?_
    refine gC_S_nodes C lkX3_11 dX3_valueOf_8 ?_
    refine zs_iload_n (k := 1) C dX3_valueOf_11 rfl rfl ?_
    refine aC_nodes C (zc_inNode c_1) dX3_valueOf_12 ?_
    refine gC_Node_value C (zs_lt (zc_inNode c_1)) lkX3_124 dX3_valueOf_13 ?_
    refine zs_goto (tgt := 20) C dX3_valueOf_16 (by decide) ?_
    exact zs_iret C hr dX3_valueOf_20

def fr_X3_nodeOfBucket (σ : zs_T) (x1 : Int32) : Int32 := (if fr_X3_isBucket σ x1 = 0 then (-1) else σ 31 (x1.toNatClampNeg))
set_option maxHeartbeats 4000000 in
set_option maxRecDepth 100000 in
theorem m_X3_nodeOfBucket {l : Launch} {D : va_G} {cI cN cW : ClassId} {ad : Nat → Nat} (hJ : zs_J 88 ad) (d : Nat) (σ : zs_T) (x1 : Int32) : zs_M l D vwCl (tysC cI cN cW) 88 ad (wC cI cN cW ad) yX3_nodeOfBucket (Cond.code yX3_nodeOfBucket cX3_nodeOfBucket 2 (some .int) :: zw_G) (zw_rm (d + 1)) [.ref (ad 0), .int x1] zs_vi σ (σ, fr_X3_nodeOfBucket σ x1) := by
  refine zs_ofZ (cc := cX3_nodeOfBucket) (nL := 2) (ret := (some .int)) (lv0 := [(0, .ref (ad 0)), (1, .int x1)]) (by decide) rfl hJ (Nat.le_of_ble_eq_true rfl) rfl ?_
  intro p e s m args below meth c C hr
  unfold fr_X3_nodeOfBucket
  refine zs_iload_n (k := 1) C dX3_nodeOfBucket_0 rfl rfl ?_
  refine zk_callSi (As := [.int x1]) (rest := []) C pk_X3_isBucket (by decide) lkX3_263 (m_X3_isBucket hJ d σ x1) rfl rfl (Nat.le_of_ble_eq_true rfl) dX3_nodeOfBucket_1 ?_
  refine zs_if_eqP (tgt := 16) C dX3_nodeOfBucket_4 (by decide) (fun c_1 => ?_) (fun c_1 => ?_)
  · refine zs_iconst (v := (-1)) C dX3_nodeOfBucket_16 (by decide) ?_
    exact zs_iret C hr dX3_nodeOfBucket_17
  · refine zs_aload_n (k := 0) C dX3_nodeOfBucket_7 rfl rfl ?_
    refine gC_S_bucketNodes C lkX3_21 dX3_nodeOfBucket_8 ?_
    refine zs_iload_n (k := 1) C dX3_nodeOfBucket_11 rfl rfl ?_
    refine aC_bk C (zc_inBk c_1) dX3_nodeOfBucket_12 ?_
    refine zs_goto (tgt := 17) C dX3_nodeOfBucket_13 (by decide) ?_
    exact zs_iret C hr dX3_nodeOfBucket_17

def fn_X3_mayLoad (σ : zs_T) (p1 : Nat) : zs_O := (if σ 15 p1 = σ 34 0 then (σ, 1) else ((zs_u σ 15 p1 (σ 34 0)), 0))
set_option maxHeartbeats 4000000 in
set_option maxRecDepth 100000 in
theorem m_X3_mayLoad {l : Launch} {D : va_G} {cI cN cW : ClassId} {ad : Nat → Nat} (hJ : zs_J 88 ad) (d : Nat) (σ : zs_T) (p1 : Nat) (hp1 : p1 < 4) : zs_M l D vwCl (tysC cI cN cW) 88 ad (wC cI cN cW ad) yX3_mayLoad (Cond.code yX3_mayLoad cX3_mayLoad 2 (some .boolean) :: zw_G) (zw_rm (d)) [.ref (ad 0), .ref (ad (68 + p1))] zs_vi σ (fn_X3_mayLoad σ p1) := by
  refine zs_ofZ (cc := cX3_mayLoad) (nL := 2) (ret := (some .boolean)) (lv0 := [(0, .ref (ad 0)), (1, .ref (ad (68 + p1)))]) (by decide) rfl hJ (Nat.le_of_ble_eq_true rfl) rfl ?_
  intro p e s m args below meth c C hr
  unfold fn_X3_mayLoad
  refine zs_aload_n (k := 1) C dX3_mayLoad_0 rfl rfl ?_
  refine gC_Worker_high C hp1 lkX3_74 dX3_mayLoad_1 ?_
  refine zs_aload_n (k := 0) C dX3_mayLoad_4 rfl rfl ?_
  refine gC_S_era C lkX3_32 dX3_mayLoad_5 ?_
  refine zs_icmp_ne (tgt := 13) C dX3_mayLoad_8 (by decide) (fun c_1 => ?_) (fun c_1 => ?_)
  · refine zs_iconst (v := 1) C dX3_mayLoad_11 (by decide) ?_
    exact zs_zret C hr rfl dX3_mayLoad_12
  · refine zs_aload_n (k := 1) C dX3_mayLoad_13 rfl rfl ?_
    refine zs_aload_n (k := 0) C dX3_mayLoad_14 rfl rfl ?_
    refine gC_S_era C lkX3_32 dX3_mayLoad_15 ?_
    refine pC_Worker_high C hp1 lkX3_74 dX3_mayLoad_18 ?_
    refine zs_iconst (v := 0) C dX3_mayLoad_21 (by decide) ?_
    exact zs_zret C hr rfl dX3_mayLoad_22

def fr_X3_leadsTo (σ : zs_T) (x1 : Int32) (x2 : Int32) : Int32 := (if fr_X3_isNode σ x1 = 0 then 0 else (if σ 2 x1.toNatClampNeg = x2 then (if σ 3 x1.toNatClampNeg = 0 then 1 else 0) else 0))
set_option maxHeartbeats 4000000 in
set_option maxRecDepth 100000 in
theorem m_X3_leadsTo {l : Launch} {D : va_G} {cI cN cW : ClassId} {ad : Nat → Nat} (hJ : zs_J 88 ad) (d : Nat) (σ : zs_T) (x1 : Int32) (x2 : Int32) : zs_M l D vwCl (tysC cI cN cW) 88 ad (wC cI cN cW ad) yX3_leadsTo (Cond.code yX3_leadsTo cX3_leadsTo 3 (some .boolean) :: zw_G) (zw_rm (d + 1)) [.ref (ad 0), .int x1, .int x2] zs_vi σ (σ, fr_X3_leadsTo σ x1 x2) := by
  refine zs_ofZ (cc := cX3_leadsTo) (nL := 3) (ret := (some .boolean)) (lv0 := [(0, .ref (ad 0)), (1, .int x1), (2, .int x2)]) (by decide) rfl hJ (Nat.le_of_ble_eq_true rfl) rfl ?_
  intro p e s m args below meth c C hr
  unfold fr_X3_leadsTo
  refine zs_iload_n (k := 1) C dX3_leadsTo_0 rfl rfl ?_
  refine zk_callSi (As := [.int x1]) (rest := []) C pk_X3_isNode (by decide) lkX3_103 (m_X3_isNode hJ d σ x1) rfl rfl (Nat.le_of_ble_eq_true rfl) dX3_leadsTo_1 ?_
  refine zs_if_eqP (tgt := 36) C dX3_leadsTo_4 (by decide) (fun c_1 => ?_) (fun c_1 => ?_)
  · refine zs_iconst (v := 0) C dX3_leadsTo_36 (by decide) ?_
    exact zs_zret C hr rfl dX3_leadsTo_37
  · refine zs_aload_n (k := 0) C dX3_leadsTo_7 rfl rfl ?_
    refine gC_S_nodes C lkX3_11 dX3_leadsTo_8 ?_
    refine zs_iload_n (k := 1) C dX3_leadsTo_11 rfl rfl ?_
    refine aC_nodes C (zc_inNode c_1) dX3_leadsTo_12 ?_
    refine gC_Node_next C (zs_lt (zc_inNode c_1)) lkX3_114 dX3_leadsTo_13 ?_
    refine zs_iload_n (k := 2) C dX3_leadsTo_16 rfl rfl ?_
    refine zs_icmp_neP (tgt := 36) C dX3_leadsTo_17 (by decide) (fun c_2 => ?_) (fun c_2 => ?_)
    · refine zs_aload_n (k := 0) C dX3_leadsTo_20 rfl rfl ?_
      refine gC_S_nodes C lkX3_11 dX3_leadsTo_21 ?_
      refine zs_iload_n (k := 1) C dX3_leadsTo_24 rfl rfl ?_
      refine aC_nodes C (zc_inNode c_1) dX3_leadsTo_25 ?_
      refine gC_Node_marked C (zs_lt (zc_inNode c_1)) lkX3_117 dX3_leadsTo_26 ?_
      refine zs_if_neP (tgt := 36) C dX3_leadsTo_29 (by decide) (fun c_3 => ?_) (fun c_3 => ?_)
      · refine zs_iconst (v := 1) C dX3_leadsTo_32 (by decide) ?_
        refine zs_goto (tgt := 37) C dX3_leadsTo_33 (by decide) ?_
        exact zs_zret C hr rfl dX3_leadsTo_37
      · refine zs_iconst (v := 0) C dX3_leadsTo_36 (by decide) ?_
        exact zs_zret C hr rfl dX3_leadsTo_37
    · refine zs_iconst (v := 0) C dX3_leadsTo_36 (by decide) ?_
      exact zs_zret C hr rfl dX3_leadsTo_37

def fn_X3_change (σ : zs_T) (x1 : Int32) (x2 : Int32) (x3 : Int32) (x4 : Int32) : zs_O := (if fr_X3_leadsTo σ x1 x2 = 0 then (σ, 0) else ((fn_X0_pointTo σ x1.toNatClampNeg x3 x4).1, 1))
def ok_X3_change (σ : zs_T) (x1 : Int32) (x2 : Int32) (x3 : Int32) (x4 : Int32) : Prop := (fr_X3_leadsTo σ x1 x2 = 0 → True) ∧ (¬ (fr_X3_leadsTo σ x1 x2 = 0) → vp_in x1 64 ∧ (ok_X0_pointTo σ x1.toNatClampNeg x3 x4 ∧ (True)))
set_option maxHeartbeats 4000000 in
set_option maxRecDepth 100000 in
theorem m_X3_change {l : Launch} {D : va_G} {cI cN cW : ClassId} {ad : Nat → Nat} (hJ : zs_J 88 ad) (d : Nat) (σ : zs_T) (x1 : Int32) (x2 : Int32) (x3 : Int32) (x4 : Int32) (hok : ok_X3_change σ x1 x2 x3 x4) : zs_M l D vwCl (tysC cI cN cW) 88 ad (wC cI cN cW ad) yX3_change (Cond.code yX3_change cX3_change 5 (some .boolean) :: zw_G) (zw_rm (d + 2)) [.ref (ad 0), .int x1, .int x2, .int x3, .int x4] zs_vi σ (fn_X3_change σ x1 x2 x3 x4) := by
  refine zs_ofZ (cc := cX3_change) (nL := 5) (ret := (some .boolean)) (lv0 := [(0, .ref (ad 0)), (1, .int x1), (2, .int x2), (3, .int x3), (4, .int x4)]) (by decide) rfl hJ (Nat.le_of_ble_eq_true rfl) rfl ?_
  intro p e s m args below meth c C hr
  unfold ok_X3_change at hok
  unfold fn_X3_change
  refine zs_aload_n (k := 0) C dX3_change_0 rfl rfl ?_
  refine zs_iload_n (k := 1) C dX3_change_1 rfl rfl ?_
  refine zs_iload_n (k := 2) C dX3_change_2 rfl rfl ?_
  refine zk_callVi (As := [.int x1, .int x2]) (rest := []) C pk_X3_leadsTo (by decide) lkX3_214 (m_X3_leadsTo hJ d σ x1 x2) zc_recvS rfl rfl rfl (Nat.le_of_ble_eq_true rfl) dX3_change_3 ?_
  refine zs_if_ne (tgt := 11) C dX3_change_6 (by decide) (fun c_1 => ?_) (fun c_1 => ?_)
  · have hok := hok.1 c_1
    refine zs_iconst (v := 0) C dX3_change_9 (by decide) ?_
    exact zs_zret C hr rfl dX3_change_10
  · have hok := hok.2 c_1
    refine zs_aload_n (k := 0) C dX3_change_11 rfl rfl ?_
    refine gC_S_nodes C lkX3_11 dX3_change_12 ?_
    refine zs_iload_n (k := 1) C dX3_change_15 rfl rfl ?_
    obtain ⟨h_2, hok⟩ := hok
    refine aC_nodes C h_2 dX3_change_16 ?_
    refine zs_iload_n (k := 3) C dX3_change_17 rfl rfl ?_
    refine zs_iload (k := 4) C dX3_change_18 rfl ?_
    obtain ⟨h_3, hok⟩ := hok
    refine zk_callVv (As := [.int x3, .int x4]) (rest := []) C pk_X0_pointTo (by decide) lkX3_252 (m_X0_pointTo hJ (d + 1) σ x1.toNatClampNeg x3 x4 (zs_lt h_2) h_3) (zc_recvNode (zs_lt h_2)) rfl rfl rfl (Nat.le_of_ble_eq_true rfl) dX3_change_20 ?_
    refine zs_iconst (v := 1) C dX3_change_23 (by decide) ?_
    exact zs_zret C hr rfl dX3_change_24

def fn_X3_retire (σ : zs_T) (p1 : Nat) (x2 : Int32) : zs_O := (if fr_X3_isNode σ x2 = 0 then (σ, 0) else ((fn_X1_add (zs_u (zs_u (zs_u σ 0 x2.toNatClampNeg 2) 7 x2.toNatClampNeg ((zs_u σ 0 x2.toNatClampNeg 2) 34 0)) 34 0 (((zs_u (zs_u σ 0 x2.toNatClampNeg 2) 7 x2.toNatClampNeg ((zs_u σ 0 x2.toNatClampNeg 2) 34 0)) 34 0) + 1)) (4 + p1) x2).1, 0))
def ok_X3_retire (σ : zs_T) (p1 : Nat) (x2 : Int32) : Prop := (fr_X3_isNode σ x2 = 0 → True) ∧ (¬ (fr_X3_isNode σ x2 = 0) → ok_X1_add (zs_u (zs_u (zs_u σ 0 x2.toNatClampNeg 2) 7 x2.toNatClampNeg ((zs_u σ 0 x2.toNatClampNeg 2) 34 0)) 34 0 (((zs_u (zs_u σ 0 x2.toNatClampNeg 2) 7 x2.toNatClampNeg ((zs_u σ 0 x2.toNatClampNeg 2) 34 0)) 34 0) + 1)) (4 + p1) x2 ∧ (True))
set_option maxHeartbeats 4000000 in
set_option maxRecDepth 100000 in
theorem m_X3_retire {l : Launch} {D : va_G} {cI cN cW : ClassId} {ad : Nat → Nat} (hJ : zs_J 88 ad) (d : Nat) (σ : zs_T) (p1 : Nat) (x2 : Int32) (hp1 : p1 < 4) (hok : ok_X3_retire σ p1 x2) : zs_M l D vwCl (tysC cI cN cW) 88 ad (wC cI cN cW ad) yX3_retire (Cond.code yX3_retire cX3_retire 3 none :: zw_G) (zw_rm (d + 1)) [.ref (ad 0), .ref (ad (68 + p1)), .int x2] zs_vv σ (fn_X3_retire σ p1 x2) := by
  refine zs_ofZ (cc := cX3_retire) (nL := 3) (ret := none) (lv0 := [(0, .ref (ad 0)), (1, .ref (ad (68 + p1))), (2, .int x2)]) (by decide) rfl hJ (Nat.le_of_ble_eq_true rfl) rfl ?_
  intro p e s m args below meth c C hr
  unfold ok_X3_retire at hok
  unfold fn_X3_retire
  refine zs_iload_n (k := 2) C dX3_retire_0 rfl rfl ?_
  refine zk_callSi (As := [.int x2]) (rest := []) C pk_X3_isNode (by decide) lkX3_103 (m_X3_isNode hJ d σ x2) rfl rfl (Nat.le_of_ble_eq_true rfl) dX3_retire_1 ?_
  refine zs_if_ne (tgt := 8) C dX3_retire_4 (by decide) (fun c_1 => ?_) (fun c_1 => ?_)
  · have hok := hok.1 c_1
    exact zs_vret C hr dX3_retire_7
  · have hok := hok.2 c_1
    refine zs_aload_n (k := 0) C dX3_retire_8 rfl rfl ?_
    refine gC_S_nodes C lkX3_11 dX3_retire_9 ?_
    refine zs_iload_n (k := 2) C dX3_retire_12 rfl rfl ?_
    refine aC_nodes C (zc_inNode c_1) dX3_retire_13 ?_
    refine zs_iconst (v := 2) C dX3_retire_14 (by decide) ?_
    refine pC_Node_state C (zs_lt (zc_inNode c_1)) lkX3_108 dX3_retire_15 ?_
    refine zs_aload_n (k := 0) C dX3_retire_18 rfl rfl ?_
    refine gC_S_nodes C lkX3_11 dX3_retire_19 ?_
    refine zs_iload_n (k := 2) C dX3_retire_22 rfl rfl ?_
    refine aC_nodes C (zc_inNode c_1) dX3_retire_23 ?_
    refine zs_aload_n (k := 0) C dX3_retire_24 rfl rfl ?_
    refine gC_S_era C lkX3_32 dX3_retire_25 ?_
    refine pC_Node_died C (zs_lt (zc_inNode c_1)) lkX3_130 dX3_retire_28 ?_
    refine zs_aload_n (k := 0) C dX3_retire_31 rfl rfl ?_
    refine zs_dup C dX3_retire_32 rfl ?_
    refine gC_S_era C lkX3_32 dX3_retire_33 ?_
    refine zs_iconst (v := 1) C dX3_retire_36 (by decide) ?_
    refine zs_iadd C dX3_retire_37 ?_
    refine pC_S_era C lkX3_32 dX3_retire_38 ?_
    refine zs_aload_n (k := 1) C dX3_retire_41 rfl rfl ?_
    refine gC_Worker_row C hp1 lkX3_77 dX3_retire_42 ?_
    refine zs_iload_n (k := 2) C dX3_retire_45 rfl rfl ?_
    obtain ⟨h_2, hok⟩ := hok
    refine zk_callVv (As := [.int x2]) (rest := []) C pk_X1_add (by decide) lkX3_194 (m_X1_add hJ d (zs_u (zs_u (zs_u σ 0 x2.toNatClampNeg 2) 7 x2.toNatClampNeg ((zs_u σ 0 x2.toNatClampNeg 2) 34 0)) 34 0 (((zs_u (zs_u σ 0 x2.toNatClampNeg 2) 7 x2.toNatClampNeg ((zs_u σ 0 x2.toNatClampNeg 2) 34 0)) 34 0) + 1)) (4 + p1) x2 (zc_8b hp1) h_2) (zc_recvNum (zc_8b hp1)) rfl rfl rfl (Nat.le_of_ble_eq_true rfl) dX3_retire_46 ?_
    exact zs_vret C hr dX3_retire_49

def fn_X3_freeOwn (σ : zs_T) (p1 : Nat) : zs_O := (if fr_X3_isNode σ (σ 22 p1) = 0 then ((zs_u σ 22 p1 (-1)), 0) else ((zs_u (zs_u σ 0 ((σ 22 p1).toNatClampNeg) 0) 22 p1 (-1)), 0))
set_option maxHeartbeats 4000000 in
set_option maxRecDepth 100000 in
theorem m_X3_freeOwn {l : Launch} {D : va_G} {cI cN cW : ClassId} {ad : Nat → Nat} (hJ : zs_J 88 ad) (d : Nat) (σ : zs_T) (p1 : Nat) (hp1 : p1 < 4) : zs_M l D vwCl (tysC cI cN cW) 88 ad (wC cI cN cW ad) yX3_freeOwn (Cond.code yX3_freeOwn cX3_freeOwn 2 none :: zw_G) (zw_rm (d + 1)) [.ref (ad 0), .ref (ad (68 + p1))] zs_vv σ (fn_X3_freeOwn σ p1) := by
  refine zs_ofZ (cc := cX3_freeOwn) (nL := 2) (ret := none) (lv0 := [(0, .ref (ad 0)), (1, .ref (ad (68 + p1)))]) (by decide) rfl hJ (Nat.le_of_ble_eq_true rfl) rfl ?_
  intro p e s m args below meth c C hr
  unfold fn_X3_freeOwn
  refine zs_aload_n (k := 1) C dX3_freeOwn_0 rfl rfl ?_
  refine gC_Worker_own C hp1 lkX3_98 dX3_freeOwn_1 ?_
  refine zk_callSi (As := [.int (σ 22 p1)]) (rest := []) C pk_X3_isNode (by decide) lkX3_103 (m_X3_isNode hJ d σ (σ 22 p1)) rfl rfl (Nat.le_of_ble_eq_true rfl) dX3_freeOwn_4 ?_
  refine zs_if_eq (tgt := 23) C dX3_freeOwn_7 (by decide) (fun c_1 => ?_) (fun c_1 => ?_)
  · refine zs_aload_n (k := 1) C dX3_freeOwn_23 rfl rfl ?_
    refine zs_iconst (v := (-1)) C dX3_freeOwn_24 (by decide) ?_
    refine pC_Worker_own C hp1 lkX3_98 dX3_freeOwn_25 ?_
    exact zs_vret C hr dX3_freeOwn_28
  · refine zs_aload_n (k := 0) C dX3_freeOwn_10 rfl rfl ?_
    refine gC_S_nodes C lkX3_11 dX3_freeOwn_11 ?_
    refine zs_aload_n (k := 1) C dX3_freeOwn_14 rfl rfl ?_
    refine gC_Worker_own C hp1 lkX3_98 dX3_freeOwn_15 ?_
    refine aC_nodes C (zc_inNode c_1) dX3_freeOwn_18 ?_
    refine zs_iconst (v := 0) C dX3_freeOwn_19 (by decide) ?_
    refine pC_Node_state C (zs_lt (zc_inNode c_1)) lkX3_108 dX3_freeOwn_20 ?_
    refine zs_aload_n (k := 1) C dX3_freeOwn_23 rfl rfl ?_
    refine zs_iconst (v := (-1)) C dX3_freeOwn_24 (by decide) ?_
    refine pC_Worker_own C hp1 lkX3_98 dX3_freeOwn_25 ?_
    exact zs_vret C hr dX3_freeOwn_28

def fn_X3_end (σ : zs_T) (p1 : Nat) (x2 : Int32) : zs_O := ((fn_X2_rest ((fn_X3_freeOwn σ p1).1) p1 x2).1, 0)
set_option maxHeartbeats 4000000 in
set_option maxRecDepth 100000 in
theorem m_X3_end {l : Launch} {D : va_G} {cI cN cW : ClassId} {ad : Nat → Nat} (hJ : zs_J 88 ad) (d : Nat) (σ : zs_T) (p1 : Nat) (x2 : Int32) (hp1 : p1 < 4) : zs_M l D vwCl (tysC cI cN cW) 88 ad (wC cI cN cW ad) yX3_end (Cond.code yX3_end cX3_end 3 none :: zw_G) (zw_rm (d + 2)) [.ref (ad 0), .ref (ad (68 + p1)), .int x2] zs_vv σ (fn_X3_end σ p1 x2) := by
  refine zs_ofZ (cc := cX3_end) (nL := 3) (ret := none) (lv0 := [(0, .ref (ad 0)), (1, .ref (ad (68 + p1))), (2, .int x2)]) (by decide) rfl hJ (Nat.le_of_ble_eq_true rfl) rfl ?_
  intro p e s m args below meth c C hr
  unfold fn_X3_end
  refine zs_aload_n (k := 0) C dX3_end_0 rfl rfl ?_
  refine zs_aload_n (k := 1) C dX3_end_1 rfl rfl ?_
  refine zk_callVv (As := [.ref (ad (68 + p1))]) (rest := []) C pk_X3_freeOwn (by decide) lkX3_256 (m_X3_freeOwn hJ d σ p1 hp1) zc_recvS rfl rfl rfl (Nat.le_of_ble_eq_true rfl) dX3_end_2 ?_
  refine zs_aload_n (k := 1) C dX3_end_5 rfl rfl ?_
  refine zs_iload_n (k := 2) C dX3_end_6 rfl rfl ?_
  refine zk_callVv (As := [.int x2]) (rest := []) C pk_X2_rest (by decide) lkX3_283 (m_X2_rest hJ d ((fn_X3_freeOwn σ p1).1) p1 x2 hp1) (zc_recvWorker hp1) rfl rfl rfl (Nat.le_of_ble_eq_true rfl) dX3_end_7 ?_
  exact zs_vret C hr dX3_end_10

def fr_X3_canBeReached_L2 : Nat → zs_T → Nat → Int32 → Int32
  | 0, σ, _, _ => 0
  | n + 1, σ, k1, x2 => (if x2 < 4 then (if σ 10 x2.toNatClampNeg = 0 then (fr_X3_canBeReached_L2 n σ k1 (x2 + 1)) else (if σ 7 k1 < σ 14 x2.toNatClampNeg then (fr_X3_canBeReached_L2 n σ k1 (x2 + 1)) else (if σ 15 x2.toNatClampNeg < σ 6 k1 then (fr_X3_canBeReached_L2 n σ k1 (x2 + 1)) else 1))) else 0)
def ok_X3_canBeReached_L2 : Nat → zs_T → Nat → Int32 → Prop
  | 0, _, _, _ => False
  | n + 1, σ, k1, x2 => (x2 < 4 → vp_in x2 4 ∧ ((σ 10 x2.toNatClampNeg = 0 → (ok_X3_canBeReached_L2 n σ k1 (x2 + 1))) ∧ (¬ (σ 10 x2.toNatClampNeg = 0) → (σ 7 k1 < σ 14 x2.toNatClampNeg → (ok_X3_canBeReached_L2 n σ k1 (x2 + 1))) ∧ (¬ (σ 7 k1 < σ 14 x2.toNatClampNeg) → (σ 15 x2.toNatClampNeg < σ 6 k1 → (ok_X3_canBeReached_L2 n σ k1 (x2 + 1))) ∧ (¬ (σ 15 x2.toNatClampNeg < σ 6 k1) → True))))) ∧ (¬ (x2 < 4) → True)
set_option maxHeartbeats 4000000 in
set_option maxRecDepth 100000 in
theorem lp_X3_canBeReached_L2 {p : Program} {l : Launch} {e : Env} {s : State} {m : MethodId} {args : Array Value} {below : List Frame} {meth : Method} {c : Code} {D : va_G} {cI cN cW : ClassId} {ad : Nat → Nat} (C : zs_C p s m args meth c cX3_canBeReached 4 (Cond.code yX3_canBeReached cX3_canBeReached 4 (some .boolean) :: zw_G) yX3_canBeReached.cls D vwCl (tysC cI cN cW) 88 ad) (hr : meth.sig.returnType = (some .boolean)) (d : Nat) : ∀ (n : Nat) (σ : zs_T) (k1 : Nat) (x2 : Int32) (hk1 : k1 < 64), ok_X3_canBeReached_L2 n σ k1 x2 → zs_Z p l e (zw_rm (d)) s m args below meth c D vwCl 88 ad (wC cI cN cW ad) 4 zs_vi (σ, fr_X3_canBeReached_L2 n σ k1 x2) σ 2 [(0, .ref (ad 0)), (1, .ref (ad (4 + k1))), (2, .int x2)] [] := by
  have hJ := C.2.2.1
  intro n
  induction n with
  | zero => intro σ k1 x2 hk1 hok; exact hok.elim
  | succ n ih =>
    intro σ k1 x2 hk1 hok
    rw [ok_X3_canBeReached_L2] at hok
    rw [fr_X3_canBeReached_L2]
    refine zs_iload_n (k := 2) C dX3_canBeReached_2 rfl rfl ?_
    refine zs_iconst (v := 4) C dX3_canBeReached_3 (by decide) ?_
    refine zs_icmp_geP (tgt := 51) C dX3_canBeReached_4 (by decide) (fun c_1 => ?_) (fun c_1 => ?_)
    · have hok := hok.1 c_1
      refine zs_aload_n (k := 0) C dX3_canBeReached_7 rfl rfl ?_
      refine gC_S_workers C lkX3_17 dX3_canBeReached_8 ?_
      refine zs_iload_n (k := 2) C dX3_canBeReached_11 rfl rfl ?_
      obtain ⟨h_2, hok⟩ := hok
      refine aC_workers C h_2 dX3_canBeReached_12 ?_
      refine zs_astore_n (lv' := [(3, .ref (ad (68 + x2.toNatClampNeg))), (0, .ref (ad 0)), (1, .ref (ad (4 + k1))), (2, .int x2)]) C dX3_canBeReached_13 rfl (by decide) rfl ?_
      refine zs_aload_n (k := 0) C dX3_canBeReached_14 rfl rfl ?_
      refine gC_Worker_place C (zs_lt h_2) lkX3_50 dX3_canBeReached_15 ?_
      refine zs_if_eqP (tgt := 45) C dX3_canBeReached_18 (by decide) (fun c_3 => ?_) (fun c_3 => ?_)
      · have hok := hok.1 c_3
        refine zs_iinc (k := 3) (v := x2 + 1) (lv' := [(2, .int (x2 + 1)), (3, .ref (ad (68 + x2.toNatClampNeg))), (0, .ref (ad 0)), (1, .ref (ad (4 + k1)))]) C dX3_canBeReached_45 rfl rfl (by decide) rfl ?_
        refine zs_goto (tgt := 2) C dX3_canBeReached_48 (by decide) ?_
        exact zs_sub [2, 3, 0] rfl (ih σ k1 (x2 + 1) hk1 hok)
      · have hok := hok.2 c_3
        refine zs_aload_n (k := 0) C dX3_canBeReached_21 rfl rfl ?_
        refine gC_Worker_low C (zs_lt h_2) lkX3_71 dX3_canBeReached_22 ?_
        refine zs_aload_n (k := 2) C dX3_canBeReached_25 rfl rfl ?_
        refine gC_Node_died C hk1 lkX3_130 dX3_canBeReached_26 ?_
        refine zs_icmp_gtP (tgt := 45) C dX3_canBeReached_29 (by decide) (fun c_4 => ?_) (fun c_4 => ?_)
        · have hok := hok.1 c_4
          refine zs_iinc (k := 3) (v := x2 + 1) (lv' := [(2, .int (x2 + 1)), (3, .ref (ad (68 + x2.toNatClampNeg))), (0, .ref (ad 0)), (1, .ref (ad (4 + k1)))]) C dX3_canBeReached_45 rfl rfl (by decide) rfl ?_
          refine zs_goto (tgt := 2) C dX3_canBeReached_48 (by decide) ?_
          exact zs_sub [2, 3, 0] rfl (ih σ k1 (x2 + 1) hk1 hok)
        · have hok := hok.2 c_4
          refine zs_aload_n (k := 2) C dX3_canBeReached_32 rfl rfl ?_
          refine gC_Node_born C hk1 lkX3_127 dX3_canBeReached_33 ?_
          refine zs_aload_n (k := 0) C dX3_canBeReached_36 rfl rfl ?_
          refine gC_Worker_high C (zs_lt h_2) lkX3_74 dX3_canBeReached_37 ?_
          refine zs_icmp_gtP (tgt := 45) C dX3_canBeReached_40 (by decide) (fun c_5 => ?_) (fun c_5 => ?_)
          · have hok := hok.1 c_5
            refine zs_iinc (k := 3) (v := x2 + 1) (lv' := [(2, .int (x2 + 1)), (3, .ref (ad (68 + x2.toNatClampNeg))), (0, .ref (ad 0)), (1, .ref (ad (4 + k1)))]) C dX3_canBeReached_45 rfl rfl (by decide) rfl ?_
            refine zs_goto (tgt := 2) C dX3_canBeReached_48 (by decide) ?_
            exact zs_sub [2, 3, 0] rfl (ih σ k1 (x2 + 1) hk1 hok)
          · have hok := hok.2 c_5
            refine zs_iconst (v := 1) C dX3_canBeReached_43 (by decide) ?_
            exact zs_zret C hr rfl dX3_canBeReached_44
    · have hok := hok.2 c_1
      refine zs_iconst (v := 0) C dX3_canBeReached_51 (by decide) ?_
      exact zs_zret C hr rfl dX3_canBeReached_52
def fr_X3_canBeReached (σ : zs_T) (k1 : Nat) : Int32 := (fr_X3_canBeReached_L2 5 σ k1 0)
def ok_X3_canBeReached (σ : zs_T) (k1 : Nat) : Prop := (ok_X3_canBeReached_L2 5 σ k1 0)
set_option maxHeartbeats 4000000 in
set_option maxRecDepth 100000 in
theorem m_X3_canBeReached {l : Launch} {D : va_G} {cI cN cW : ClassId} {ad : Nat → Nat} (hJ : zs_J 88 ad) (d : Nat) (σ : zs_T) (k1 : Nat) (hk1 : k1 < 64) (hok : ok_X3_canBeReached σ k1) : zs_M l D vwCl (tysC cI cN cW) 88 ad (wC cI cN cW ad) yX3_canBeReached (Cond.code yX3_canBeReached cX3_canBeReached 4 (some .boolean) :: zw_G) (zw_rm (d)) [.ref (ad 0), .ref (ad (4 + k1))] zs_vi σ (σ, fr_X3_canBeReached σ k1) := by
  refine zs_ofZ (cc := cX3_canBeReached) (nL := 4) (ret := (some .boolean)) (lv0 := [(0, .ref (ad 0)), (1, .ref (ad (4 + k1)))]) (by decide) rfl hJ (Nat.le_of_ble_eq_true rfl) rfl ?_
  intro p e s m args below meth c C hr
  unfold ok_X3_canBeReached at hok
  unfold fr_X3_canBeReached
  refine zs_iconst (v := 0) C dX3_canBeReached_0 (by decide) ?_
  refine zs_istore_n (lv' := [(2, .int 0), (0, .ref (ad 0)), (1, .ref (ad (4 + k1)))]) C dX3_canBeReached_1 rfl (by decide) rfl ?_
  exact zs_sub [1, 2, 0] rfl (lp_X3_canBeReached_L2 C hr d 5 σ k1 0 hk1 hok)

def fr_X3_countNodes_L4 : Nat → zs_T → Int32 → Int32 → Int32 → Int32
  | 0, σ, _, _, _ => 0
  | n + 1, σ, x1, x2, x3 => (if x3 < 64 then (if σ 0 x3.toNatClampNeg = x1 then (fr_X3_countNodes_L4 n σ x1 (x2 + 1) (x3 + 1)) else (fr_X3_countNodes_L4 n σ x1 x2 (x3 + 1))) else x2)
def ok_X3_countNodes_L4 : Nat → zs_T → Int32 → Int32 → Int32 → Prop
  | 0, _, _, _, _ => False
  | n + 1, σ, x1, x2, x3 => (x3 < 64 → vp_in x3 64 ∧ ((σ 0 x3.toNatClampNeg = x1 → (ok_X3_countNodes_L4 n σ x1 (x2 + 1) (x3 + 1))) ∧ (¬ (σ 0 x3.toNatClampNeg = x1) → (ok_X3_countNodes_L4 n σ x1 x2 (x3 + 1))))) ∧ (¬ (x3 < 64) → True)
set_option maxHeartbeats 4000000 in
set_option maxRecDepth 100000 in
theorem lp_X3_countNodes_L4 {p : Program} {l : Launch} {e : Env} {s : State} {m : MethodId} {args : Array Value} {below : List Frame} {meth : Method} {c : Code} {D : va_G} {cI cN cW : ClassId} {ad : Nat → Nat} (C : zs_C p s m args meth c cX3_countNodes 4 (Cond.code yX3_countNodes cX3_countNodes 4 (some .int) :: zw_G) yX3_countNodes.cls D vwCl (tysC cI cN cW) 88 ad) (hr : meth.sig.returnType = (some .int)) (d : Nat) : ∀ (n : Nat) (σ : zs_T) (x1 : Int32) (x2 : Int32) (x3 : Int32), ok_X3_countNodes_L4 n σ x1 x2 x3 → zs_Z p l e (zw_rm (d)) s m args below meth c D vwCl 88 ad (wC cI cN cW ad) 4 zs_vi (σ, fr_X3_countNodes_L4 n σ x1 x2 x3) σ 4 [(0, .ref (ad 0)), (1, .int x1), (2, .int x2), (3, .int x3)] [] := by
  have hJ := C.2.2.1
  intro n
  induction n with
  | zero => intro σ x1 x2 x3  hok; exact hok.elim
  | succ n ih =>
    intro σ x1 x2 x3  hok
    rw [ok_X3_countNodes_L4] at hok
    rw [fr_X3_countNodes_L4]
    refine zs_iload_n (k := 3) C dX3_countNodes_4 rfl rfl ?_
    refine zs_bipush (v := 64) C dX3_countNodes_5 (by decide) ?_
    refine zs_icmp_geP (tgt := 32) C dX3_countNodes_7 (by decide) (fun c_1 => ?_) (fun c_1 => ?_)
    · have hok := hok.1 c_1
      refine zs_aload_n (k := 0) C dX3_countNodes_10 rfl rfl ?_
      refine gC_S_nodes C lkX3_11 dX3_countNodes_11 ?_
      refine zs_iload_n (k := 3) C dX3_countNodes_14 rfl rfl ?_
      obtain ⟨h_2, hok⟩ := hok
      refine aC_nodes C h_2 dX3_countNodes_15 ?_
      refine gC_Node_state C (zs_lt h_2) lkX3_108 dX3_countNodes_16 ?_
      refine zs_iload_n (k := 1) C dX3_countNodes_19 rfl rfl ?_
      refine zs_icmp_neP (tgt := 26) C dX3_countNodes_20 (by decide) (fun c_3 => ?_) (fun c_3 => ?_)
      · have hok := hok.1 c_3
        refine zs_iinc (k := 2) (v := x2 + 1) (lv' := [(2, .int (x2 + 1)), (0, .ref (ad 0)), (1, .int x1), (3, .int x3)]) C dX3_countNodes_23 rfl rfl (by decide) rfl ?_
        refine zs_iinc (k := 3) (v := x3 + 1) (lv' := [(3, .int (x3 + 1)), (2, .int (x2 + 1)), (0, .ref (ad 0)), (1, .int x1)]) C dX3_countNodes_26 rfl rfl (by decide) rfl ?_
        refine zs_goto (tgt := 4) C dX3_countNodes_29 (by decide) ?_
        exact zs_sub [2, 3, 1, 0] rfl (ih σ x1 (x2 + 1) (x3 + 1)  hok)
      · have hok := hok.2 c_3
        refine zs_iinc (k := 3) (v := x3 + 1) (lv' := [(3, .int (x3 + 1)), (0, .ref (ad 0)), (1, .int x1), (2, .int x2)]) C dX3_countNodes_26 rfl rfl (by decide) rfl ?_
        refine zs_goto (tgt := 4) C dX3_countNodes_29 (by decide) ?_
        exact zs_sub [1, 2, 3, 0] rfl (ih σ x1 x2 (x3 + 1)  hok)
    · have hok := hok.2 c_1
      refine zs_iload_n (k := 2) C dX3_countNodes_32 rfl rfl ?_
      exact zs_iret C hr dX3_countNodes_33
def fr_X3_countNodes (σ : zs_T) (x1 : Int32) : Int32 := (fr_X3_countNodes_L4 65 σ x1 0 0)
def ok_X3_countNodes (σ : zs_T) (x1 : Int32) : Prop := (ok_X3_countNodes_L4 65 σ x1 0 0)
set_option maxHeartbeats 4000000 in
set_option maxRecDepth 100000 in
theorem m_X3_countNodes {l : Launch} {D : va_G} {cI cN cW : ClassId} {ad : Nat → Nat} (hJ : zs_J 88 ad) (d : Nat) (σ : zs_T) (x1 : Int32) (hok : ok_X3_countNodes σ x1) : zs_M l D vwCl (tysC cI cN cW) 88 ad (wC cI cN cW ad) yX3_countNodes (Cond.code yX3_countNodes cX3_countNodes 4 (some .int) :: zw_G) (zw_rm (d)) [.ref (ad 0), .int x1] zs_vi σ (σ, fr_X3_countNodes σ x1) := by
  refine zs_ofZ (cc := cX3_countNodes) (nL := 4) (ret := (some .int)) (lv0 := [(0, .ref (ad 0)), (1, .int x1)]) (by decide) rfl hJ (Nat.le_of_ble_eq_true rfl) rfl ?_
  intro p e s m args below meth c C hr
  unfold ok_X3_countNodes at hok
  unfold fr_X3_countNodes
  refine zs_iconst (v := 0) C dX3_countNodes_0 (by decide) ?_
  refine zs_istore_n (lv' := [(2, .int 0), (0, .ref (ad 0)), (1, .int x1)]) C dX3_countNodes_1 rfl (by decide) rfl ?_
  refine zs_iconst (v := 0) C dX3_countNodes_2 (by decide) ?_
  refine zs_istore_n (lv' := [(3, .int 0), (2, .int 0), (0, .ref (ad 0)), (1, .int x1)]) C dX3_countNodes_3 rfl (by decide) rfl ?_
  exact zs_sub [2, 3, 1, 0] rfl (lp_X3_countNodes_L4 C hr d 65 σ x1 0 0  hok)

def fn_X3_takeFreeNode_L10 : Nat → zs_T → Nat → Int32 → Int32 → zs_O
  | 0, σ, _, _, _ => (σ, 0)
  | n + 1, σ, p1, x2, x3 => (if x3 < 64 then (if σ 0 x3.toNatClampNeg = 0 then (if x2 = 0 then (if x2 = 0 then ((fn_X0_appear σ x3.toNatClampNeg (fr_X3_wantedOrder σ p1) (-1) 0 (σ 34 0)).1, x3) else ((fn_X0_appear σ x3.toNatClampNeg (fr_X3_wantedOrder σ p1) (-1) (σ 13 p1) (σ 34 0)).1, x3)) else (if x2 = 0 then ((fn_X0_appear σ x3.toNatClampNeg (fr_X3_wantedOrder σ p1) (σ 12 p1) 0 (σ 34 0)).1, x3) else ((fn_X0_appear σ x3.toNatClampNeg (fr_X3_wantedOrder σ p1) (σ 12 p1) (σ 13 p1) (σ 34 0)).1, x3))) else (fn_X3_takeFreeNode_L10 n σ p1 x2 (x3 + 1))) else (σ, (-1)))
def ok_X3_takeFreeNode_L10 : Nat → zs_T → Nat → Int32 → Int32 → Prop
  | 0, _, _, _, _ => False
  | n + 1, σ, p1, x2, x3 => (x3 < 64 → vp_in x3 64 ∧ ((σ 0 x3.toNatClampNeg = 0 → vp_in x3 64 ∧ (ok_X3_wantedOrder σ p1 ∧ ((x2 = 0 → (x2 = 0 → ok_X0_appear σ x3.toNatClampNeg (fr_X3_wantedOrder σ p1) (-1) 0 (σ 34 0) ∧ (True)) ∧ (¬ (x2 = 0) → ok_X0_appear σ x3.toNatClampNeg (fr_X3_wantedOrder σ p1) (-1) (σ 13 p1) (σ 34 0) ∧ (True))) ∧ (¬ (x2 = 0) → (x2 = 0 → ok_X0_appear σ x3.toNatClampNeg (fr_X3_wantedOrder σ p1) (σ 12 p1) 0 (σ 34 0) ∧ (True)) ∧ (¬ (x2 = 0) → ok_X0_appear σ x3.toNatClampNeg (fr_X3_wantedOrder σ p1) (σ 12 p1) (σ 13 p1) (σ 34 0) ∧ (True)))))) ∧ (¬ (σ 0 x3.toNatClampNeg = 0) → (ok_X3_takeFreeNode_L10 n σ p1 x2 (x3 + 1))))) ∧ (¬ (x3 < 64) → True)
set_option maxHeartbeats 4000000 in
set_option maxRecDepth 100000 in
theorem lp_X3_takeFreeNode_L10 {p : Program} {l : Launch} {e : Env} {s : State} {m : MethodId} {args : Array Value} {below : List Frame} {meth : Method} {c : Code} {D : va_G} {cI cN cW : ClassId} {ad : Nat → Nat} (C : zs_C p s m args meth c cX3_takeFreeNode 4 (Cond.code yX3_takeFreeNode cX3_takeFreeNode 4 (some .int) :: zw_G) yX3_takeFreeNode.cls D vwCl (tysC cI cN cW) 88 ad) (hr : meth.sig.returnType = (some .int)) (d : Nat) : ∀ (n : Nat) (σ : zs_T) (p1 : Nat) (x2 : Int32) (x3 : Int32) (hp1 : p1 < 4), ok_X3_takeFreeNode_L10 n σ p1 x2 x3 → zs_Z p l e (zw_rm (d + 3)) s m args below meth c D vwCl 88 ad (wC cI cN cW ad) 4 zs_vi (fn_X3_takeFreeNode_L10 n σ p1 x2 x3) σ 10 [(0, .ref (ad 0)), (1, .ref (ad (68 + p1))), (2, .int x2), (3, .int x3)] [] := by
  have hJ := C.2.2.1
  intro n
  induction n with
  | zero => intro σ p1 x2 x3 hp1 hok; exact hok.elim
  | succ n ih =>
    intro σ p1 x2 x3 hp1 hok
    rw [ok_X3_takeFreeNode_L10] at hok
    rw [fn_X3_takeFreeNode_L10]
    refine zs_iload_n (k := 3) C dX3_takeFreeNode_10 rfl rfl ?_
    refine zs_bipush (v := 64) C dX3_takeFreeNode_11 (by decide) ?_
    refine zs_icmp_ge (tgt := 77) C dX3_takeFreeNode_13 (by decide) (fun c_1 => ?_) (fun c_1 => ?_)
    · have hok := hok.1 c_1
      refine zs_aload_n (k := 0) C dX3_takeFreeNode_16 rfl rfl ?_
      refine gC_S_nodes C lkX3_11 dX3_takeFreeNode_17 ?_
      refine zs_iload_n (k := 3) C dX3_takeFreeNode_20 rfl rfl ?_
      obtain ⟨h_2, hok⟩ := hok
      refine aC_nodes C h_2 dX3_takeFreeNode_21 ?_
      refine gC_Node_state C (zs_lt h_2) lkX3_108 dX3_takeFreeNode_22 ?_
      refine zs_if_ne (tgt := 71) C dX3_takeFreeNode_25 (by decide) (fun c_3 => ?_) (fun c_3 => ?_)
      · have hok := hok.1 c_3
        refine zs_aload_n (k := 0) C dX3_takeFreeNode_28 rfl rfl ?_
        refine gC_S_nodes C lkX3_11 dX3_takeFreeNode_29 ?_
        refine zs_iload_n (k := 3) C dX3_takeFreeNode_32 rfl rfl ?_
        obtain ⟨h_4, hok⟩ := hok
        refine aC_nodes C h_4 dX3_takeFreeNode_33 ?_
        refine zs_aload_n (k := 1) C dX3_takeFreeNode_34 rfl rfl ?_
        obtain ⟨h_5, hok⟩ := hok
        refine zk_callSi (As := [.ref (ad (68 + p1))]) (rest := [.ref (ad (4 + x3.toNatClampNeg))]) C pk_X3_wantedOrder (by decide) lkX3_218 (m_X3_wantedOrder hJ d σ p1 hp1 h_5) rfl rfl (Nat.le_of_ble_eq_true rfl) dX3_takeFreeNode_35 ?_
        refine zs_iload_n (k := 2) C dX3_takeFreeNode_38 rfl rfl ?_
        refine zs_if_eq (tgt := 49) C dX3_takeFreeNode_39 (by decide) (fun c_6 => ?_) (fun c_6 => ?_)
        · have hok := hok.1 c_6
          refine zs_iconst (v := (-1)) C dX3_takeFreeNode_49 (by decide) ?_
          refine zs_iload_n (k := 2) C dX3_takeFreeNode_50 rfl rfl ?_
          refine zs_if_eq (tgt := 61) C dX3_takeFreeNode_51 (by decide) (fun c_7 => ?_) (fun c_7 => ?_)
          · have hok := hok.1 c_7
            refine zs_iconst (v := 0) C dX3_takeFreeNode_61 (by decide) ?_
            refine zs_aload_n (k := 0) C dX3_takeFreeNode_62 rfl rfl ?_
            refine gC_S_era C lkX3_32 dX3_takeFreeNode_63 ?_
            obtain ⟨h_8, hok⟩ := hok
            refine zk_callVv (As := [.int (fr_X3_wantedOrder σ p1), .int (-1), .int 0, .int (σ 34 0)]) (rest := []) C pk_X0_appear (by decide) lkX3_41 (m_X0_appear hJ (d + 1) σ x3.toNatClampNeg (fr_X3_wantedOrder σ p1) (-1) 0 (σ 34 0) (zs_lt h_4) h_8) (zc_recvNode (zs_lt h_4)) rfl rfl rfl (Nat.le_of_ble_eq_true rfl) dX3_takeFreeNode_66 ?_
            refine zs_iload_n (k := 3) C dX3_takeFreeNode_69 rfl rfl ?_
            exact zs_iret C hr dX3_takeFreeNode_70
          · have hok := hok.2 c_7
            refine zs_aload_n (k := 1) C dX3_takeFreeNode_54 rfl rfl ?_
            refine gC_Worker_value C hp1 lkX3_286 dX3_takeFreeNode_55 ?_
            refine zs_goto (tgt := 62) C dX3_takeFreeNode_58 (by decide) ?_
            refine zs_aload_n (k := 0) C dX3_takeFreeNode_62 rfl rfl ?_
            refine gC_S_era C lkX3_32 dX3_takeFreeNode_63 ?_
            obtain ⟨h_9, hok⟩ := hok
            refine zk_callVv (As := [.int (fr_X3_wantedOrder σ p1), .int (-1), .int (σ 13 p1), .int (σ 34 0)]) (rest := []) C pk_X0_appear (by decide) lkX3_41 (m_X0_appear hJ (d + 1) σ x3.toNatClampNeg (fr_X3_wantedOrder σ p1) (-1) (σ 13 p1) (σ 34 0) (zs_lt h_4) h_9) (zc_recvNode (zs_lt h_4)) rfl rfl rfl (Nat.le_of_ble_eq_true rfl) dX3_takeFreeNode_66 ?_
            refine zs_iload_n (k := 3) C dX3_takeFreeNode_69 rfl rfl ?_
            exact zs_iret C hr dX3_takeFreeNode_70
        · have hok := hok.2 c_6
          refine zs_aload_n (k := 1) C dX3_takeFreeNode_42 rfl rfl ?_
          refine gC_Worker_key C hp1 lkX3_180 dX3_takeFreeNode_43 ?_
          refine zs_goto (tgt := 50) C dX3_takeFreeNode_46 (by decide) ?_
          refine zs_iload_n (k := 2) C dX3_takeFreeNode_50 rfl rfl ?_
          refine zs_if_eq (tgt := 61) C dX3_takeFreeNode_51 (by decide) (fun c_10 => ?_) (fun c_10 => ?_)
          · have hok := hok.1 c_10
            refine zs_iconst (v := 0) C dX3_takeFreeNode_61 (by decide) ?_
            refine zs_aload_n (k := 0) C dX3_takeFreeNode_62 rfl rfl ?_
            refine gC_S_era C lkX3_32 dX3_takeFreeNode_63 ?_
            obtain ⟨h_11, hok⟩ := hok
            refine zk_callVv (As := [.int (fr_X3_wantedOrder σ p1), .int (σ 12 p1), .int 0, .int (σ 34 0)]) (rest := []) C pk_X0_appear (by decide) lkX3_41 (m_X0_appear hJ (d + 1) σ x3.toNatClampNeg (fr_X3_wantedOrder σ p1) (σ 12 p1) 0 (σ 34 0) (zs_lt h_4) h_11) (zc_recvNode (zs_lt h_4)) rfl rfl rfl (Nat.le_of_ble_eq_true rfl) dX3_takeFreeNode_66 ?_
            refine zs_iload_n (k := 3) C dX3_takeFreeNode_69 rfl rfl ?_
            exact zs_iret C hr dX3_takeFreeNode_70
          · have hok := hok.2 c_10
            refine zs_aload_n (k := 1) C dX3_takeFreeNode_54 rfl rfl ?_
            refine gC_Worker_value C hp1 lkX3_286 dX3_takeFreeNode_55 ?_
            refine zs_goto (tgt := 62) C dX3_takeFreeNode_58 (by decide) ?_
            refine zs_aload_n (k := 0) C dX3_takeFreeNode_62 rfl rfl ?_
            refine gC_S_era C lkX3_32 dX3_takeFreeNode_63 ?_
            obtain ⟨h_12, hok⟩ := hok
            refine zk_callVv (As := [.int (fr_X3_wantedOrder σ p1), .int (σ 12 p1), .int (σ 13 p1), .int (σ 34 0)]) (rest := []) C pk_X0_appear (by decide) lkX3_41 (m_X0_appear hJ (d + 1) σ x3.toNatClampNeg (fr_X3_wantedOrder σ p1) (σ 12 p1) (σ 13 p1) (σ 34 0) (zs_lt h_4) h_12) (zc_recvNode (zs_lt h_4)) rfl rfl rfl (Nat.le_of_ble_eq_true rfl) dX3_takeFreeNode_66 ?_
            refine zs_iload_n (k := 3) C dX3_takeFreeNode_69 rfl rfl ?_
            exact zs_iret C hr dX3_takeFreeNode_70
      · have hok := hok.2 c_3
        refine zs_iinc (k := 3) (v := x3 + 1) (lv' := [(3, .int (x3 + 1)), (0, .ref (ad 0)), (1, .ref (ad (68 + p1))), (2, .int x2)]) C dX3_takeFreeNode_71 rfl rfl (by decide) rfl ?_
        refine zs_goto (tgt := 10) C dX3_takeFreeNode_74 (by decide) ?_
        exact zs_sub [1, 2, 3, 0] rfl (ih σ p1 x2 (x3 + 1) hp1 hok)
    · have hok := hok.2 c_1
      refine zs_iconst (v := (-1)) C dX3_takeFreeNode_77 (by decide) ?_
      exact zs_iret C hr dX3_takeFreeNode_78
def fn_X3_takeFreeNode (σ : zs_T) (p1 : Nat) : zs_O := (fn_X3_takeFreeNode_L10 65 σ p1 (fr_X1_isEmpty σ p1) 0)
def ok_X3_takeFreeNode (σ : zs_T) (p1 : Nat) : Prop := (ok_X3_takeFreeNode_L10 65 σ p1 (fr_X1_isEmpty σ p1) 0)
set_option maxHeartbeats 4000000 in
set_option maxRecDepth 100000 in
theorem m_X3_takeFreeNode {l : Launch} {D : va_G} {cI cN cW : ClassId} {ad : Nat → Nat} (hJ : zs_J 88 ad) (d : Nat) (σ : zs_T) (p1 : Nat) (hp1 : p1 < 4) (hok : ok_X3_takeFreeNode σ p1) : zs_M l D vwCl (tysC cI cN cW) 88 ad (wC cI cN cW ad) yX3_takeFreeNode (Cond.code yX3_takeFreeNode cX3_takeFreeNode 4 (some .int) :: zw_G) (zw_rm (d + 3)) [.ref (ad 0), .ref (ad (68 + p1))] zs_vi σ (fn_X3_takeFreeNode σ p1) := by
  refine zs_ofZ (cc := cX3_takeFreeNode) (nL := 4) (ret := (some .int)) (lv0 := [(0, .ref (ad 0)), (1, .ref (ad (68 + p1)))]) (by decide) rfl hJ (Nat.le_of_ble_eq_true rfl) rfl ?_
  intro p e s m args below meth c C hr
  unfold ok_X3_takeFreeNode at hok
  unfold fn_X3_takeFreeNode
  refine zs_aload_n (k := 1) C dX3_takeFreeNode_0 rfl rfl ?_
  refine gC_Worker_stack C hp1 lkX3_86 dX3_takeFreeNode_1 ?_
  refine zk_callVi (As := []) (rest := []) C pk_X1_isEmpty (by decide) lkX3_222 (m_X1_isEmpty hJ (d + 2) σ p1 (zc_8a hp1)) (zc_recvNum (zc_8a hp1)) rfl rfl rfl (Nat.le_of_ble_eq_true rfl) dX3_takeFreeNode_4 ?_
  refine zs_istore_n (lv' := [(2, .int (fr_X1_isEmpty σ p1)), (0, .ref (ad 0)), (1, .ref (ad (68 + p1)))]) C dX3_takeFreeNode_7 rfl (by decide) rfl ?_
  refine zs_iconst (v := 0) C dX3_takeFreeNode_8 (by decide) ?_
  refine zs_istore_n (lv' := [(3, .int 0), (2, .int (fr_X1_isEmpty σ p1)), (0, .ref (ad 0)), (1, .ref (ad (68 + p1)))]) C dX3_takeFreeNode_9 rfl (by decide) rfl ?_
  exact zs_sub [2, 3, 1, 0] rfl (lp_X3_takeFreeNode_L10 C hr d 65 σ p1 (fr_X1_isEmpty σ p1) 0 hp1 hok)
