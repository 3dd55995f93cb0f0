def fn_X3_enter (σ : zs_T) (p1 : Nat) : zs_O := ((zs_u (fn_X1_cutTo (zs_u (zs_u (zs_u σ 14 p1 (σ 34 0)) 15 p1 ((zs_u σ 14 p1 (σ 34 0)) 34 0)) 16 p1 ((fr_X3_hashOf (zs_u (zs_u σ 14 p1 (σ 34 0)) 15 p1 ((zs_u σ 14 p1 (σ 34 0)) 34 0)) ((zs_u (zs_u σ 14 p1 (σ 34 0)) 15 p1 ((zs_u σ 14 p1 (σ 34 0)) 34 0)) 12 p1)) &&& (((zs_u (zs_u σ 14 p1 (σ 34 0)) 15 p1 ((zs_u σ 14 p1 (σ 34 0)) 34 0)) 32 0) - 1))) p1 0).1 10 p1 2), 0)
set_option maxHeartbeats 4000000 in
set_option maxRecDepth 100000 in
theorem m_X3_enter {l : Launch} {D : va_G} {cI cN cW : ClassId} {ad : Nat → Nat} (hJ : zs_J 88 ad) (d : Nat) (σ : zs_T) (p1 : Nat) (hp1 : p1 < 4) : zs_M l D vwCl (tysC cI cN cW) 88 ad (wC cI cN cW ad) yX3_enter (Cond.code yX3_enter cX3_enter 2 none :: zw_G) (zw_rm (d + 1)) [.ref (ad 0), .ref (ad (68 + p1))] zs_vv σ (fn_X3_enter σ p1) := by
  refine zs_ofZ (cc := cX3_enter) (nL := 2) (ret := none) (lv0 := [(0, .ref (ad 0)), (1, .ref (ad (68 + p1)))]) (by decide) rfl hJ (Nat.le_of_ble_eq_true rfl) rfl ?_
  intro p e s m args below meth c C hr
  unfold fn_X3_enter
  refine zs_aload_n (k := 1) C dX3_enter_0 rfl rfl ?_
  refine zs_aload_n (k := 0) C dX3_enter_1 rfl rfl ?_
  refine gC_S_era C lkX3_32 dX3_enter_2 ?_
  refine pC_Worker_low C hp1 lkX3_71 dX3_enter_5 ?_
  refine zs_aload_n (k := 1) C dX3_enter_8 rfl rfl ?_
  refine zs_aload_n (k := 0) C dX3_enter_9 rfl rfl ?_
  refine gC_S_era C lkX3_32 dX3_enter_10 ?_
  refine pC_Worker_high C hp1 lkX3_74 dX3_enter_13 ?_
  refine zs_aload_n (k := 1) C dX3_enter_16 rfl rfl ?_
  refine zs_aload_n (k := 1) C dX3_enter_17 rfl rfl ?_
  refine gC_Worker_key C hp1 lkX3_180 dX3_enter_18 ?_
  refine zk_callSi (As := [.int ((zs_u (zs_u σ 14 p1 (σ 34 0)) 15 p1 ((zs_u σ 14 p1 (σ 34 0)) 34 0)) 12 p1)]) (rest := [.ref (ad (68 + p1))]) C pk_X3_hashOf (by decide) lkX3_181 (m_X3_hashOf hJ d (zs_u (zs_u σ 14 p1 (σ 34 0)) 15 p1 ((zs_u σ 14 p1 (σ 34 0)) 34 0)) ((zs_u (zs_u σ 14 p1 (σ 34 0)) 15 p1 ((zs_u σ 14 p1 (σ 34 0)) 34 0)) 12 p1)) rfl rfl (Nat.le_of_ble_eq_true rfl) dX3_enter_21 ?_
  refine zs_aload_n (k := 0) C dX3_enter_24 rfl rfl ?_
  refine gC_S_size C lkX3_25 dX3_enter_25 ?_
  refine zs_iconst (v := 1) C dX3_enter_28 (by decide) ?_
  refine zs_isub C dX3_enter_29 ?_
  refine zs_iand C dX3_enter_30 ?_
  refine pC_Worker_bucket C hp1 lkX3_184 dX3_enter_31 ?_
  refine zs_aload_n (k := 1) C dX3_enter_34 rfl rfl ?_
  refine gC_Worker_stack C hp1 lkX3_86 dX3_enter_35 ?_
  refine zs_iconst (v := 0) C dX3_enter_38 (by decide) ?_
  refine zk_callVv (As := [.int 0]) (rest := []) C pk_X1_cutTo (by decide) lkX3_187 (m_X1_cutTo hJ d (zs_u (zs_u (zs_u σ 14 p1 (σ 34 0)) 15 p1 ((zs_u σ 14 p1 (σ 34 0)) 34 0)) 16 p1 ((fr_X3_hashOf (zs_u (zs_u σ 14 p1 (σ 34 0)) 15 p1 ((zs_u σ 14 p1 (σ 34 0)) 34 0)) ((zs_u (zs_u σ 14 p1 (σ 34 0)) 15 p1 ((zs_u σ 14 p1 (σ 34 0)) 34 0)) 12 p1)) &&& (((zs_u (zs_u σ 14 p1 (σ 34 0)) 15 p1 ((zs_u σ 14 p1 (σ 34 0)) 34 0)) 32 0) - 1))) p1 0 (zc_8a hp1)) (zc_recvNum (zc_8a hp1)) rfl rfl rfl (Nat.le_of_ble_eq_true rfl) dX3_enter_39 ?_
  refine zs_aload_n (k := 1) C dX3_enter_42 rfl rfl ?_
  refine zs_iconst (v := 2) C dX3_enter_43 (by decide) ?_
  refine pC_Worker_place C hp1 lkX3_50 dX3_enter_44 ?_
  exact zs_vret C hr dX3_enter_47

def fn_X3_seekBucket (σ : zs_T) (p1 : Nat) : zs_O := (if fr_X3_nodeOfBucket σ (σ 16 p1) = (-1) then ((zs_u (fn_X1_add σ p1 (σ 16 p1)).1 16 p1 (fr_X3_parentOf ((fn_X1_add σ p1 (σ 16 p1)).1) (((fn_X1_add σ p1 (σ 16 p1)).1) 16 p1))), 0) else ((zs_u (zs_u σ 17 p1 (fr_X3_nodeOfBucket σ (σ 16 p1))) 10 p1 3), 0))
def ok_X3_seekBucket (σ : zs_T) (p1 : Nat) : Prop := (fr_X3_nodeOfBucket σ (σ 16 p1) = (-1) → ok_X1_add σ p1 (σ 16 p1) ∧ (ok_X3_parentOf ((fn_X1_add σ p1 (σ 16 p1)).1) (((fn_X1_add σ p1 (σ 16 p1)).1) 16 p1) ∧ (True))) ∧ (¬ (fr_X3_nodeOfBucket σ (σ 16 p1) = (-1)) → True)
set_option maxHeartbeats 4000000 in
set_option maxRecDepth 100000 in
theorem m_X3_seekBucket {l : Launch} {D : va_G} {cI cN cW : ClassId} {ad : Nat → Nat} (hJ : zs_J 88 ad) (d : Nat) (σ : zs_T) (p1 : Nat) (hp1 : p1 < 4) (hok : ok_X3_seekBucket σ p1) : zs_M l D vwCl (tysC cI cN cW) 88 ad (wC cI cN cW ad) yX3_seekBucket (Cond.code yX3_seekBucket cX3_seekBucket 3 none :: zw_G) (zw_rm (d + 2)) [.ref (ad 0), .ref (ad (68 + p1))] zs_vv σ (fn_X3_seekBucket σ p1) := by
  refine zs_ofZ (cc := cX3_seekBucket) (nL := 3) (ret := none) (lv0 := [(0, .ref (ad 0)), (1, .ref (ad (68 + p1)))]) (by decide) rfl hJ (Nat.le_of_ble_eq_true rfl) rfl ?_
  intro p e s m args below meth c C hr
  unfold ok_X3_seekBucket at hok
  unfold fn_X3_seekBucket
  refine zs_aload_n (k := 0) C dX3_seekBucket_0 rfl rfl ?_
  refine zs_aload_n (k := 1) C dX3_seekBucket_1 rfl rfl ?_
  refine gC_Worker_bucket C hp1 lkX3_184 dX3_seekBucket_2 ?_
  refine zk_callVi (As := [.int (σ 16 p1)]) (rest := []) C pk_X3_nodeOfBucket (by decide) lkX3_135 (m_X3_nodeOfBucket hJ d σ (σ 16 p1)) zc_recvS rfl rfl rfl (Nat.le_of_ble_eq_true rfl) dX3_seekBucket_5 ?_
  refine zs_istore_n (lv' := [(2, .int (fr_X3_nodeOfBucket σ (σ 16 p1))), (0, .ref (ad 0)), (1, .ref (ad (68 + p1)))]) C dX3_seekBucket_8 rfl (by decide) rfl ?_
  refine zs_iload_n (k := 0) C dX3_seekBucket_9 rfl rfl ?_
  refine zs_iconst (v := (-1)) C dX3_seekBucket_10 (by decide) ?_
  refine zs_icmp_eq (tgt := 27) C dX3_seekBucket_11 (by decide) (fun c_1 => ?_) (fun c_1 => ?_)
  · have hok := hok.1 c_1
    refine zs_aload_n (k := 2) C dX3_seekBucket_27 rfl rfl ?_
    refine gC_Worker_stack C hp1 lkX3_86 dX3_seekBucket_28 ?_
    refine zs_aload_n (k := 2) C dX3_seekBucket_31 rfl rfl ?_
    refine gC_Worker_bucket C hp1 lkX3_184 dX3_seekBucket_32 ?_
    obtain ⟨h_2, hok⟩ := hok
    refine zk_callVv (As := [.int (σ 16 p1)]) (rest := []) C pk_X1_add (by decide) lkX3_194 (m_X1_add hJ (d + 1) σ p1 (σ 16 p1) (zc_8a hp1) h_2) (zc_recvNum (zc_8a hp1)) rfl rfl rfl (Nat.le_of_ble_eq_true rfl) dX3_seekBucket_35 ?_
    refine zs_aload_n (k := 2) C dX3_seekBucket_38 rfl rfl ?_
    refine zs_aload_n (k := 2) C dX3_seekBucket_39 rfl rfl ?_
    refine gC_Worker_bucket C hp1 lkX3_184 dX3_seekBucket_40 ?_
    obtain ⟨h_3, hok⟩ := hok
    refine zk_callSi (As := [.int (((fn_X1_add σ p1 (σ 16 p1)).1) 16 p1)]) (rest := [.ref (ad (68 + p1))]) C pk_X3_parentOf (by decide) lkX3_197 (m_X3_parentOf hJ (d + 1) ((fn_X1_add σ p1 (σ 16 p1)).1) (((fn_X1_add σ p1 (σ 16 p1)).1) 16 p1) h_3) rfl rfl (Nat.le_of_ble_eq_true rfl) dX3_seekBucket_43 ?_
    refine pC_Worker_bucket C hp1 lkX3_184 dX3_seekBucket_46 ?_
    exact zs_vret C hr dX3_seekBucket_49
  · have hok := hok.2 c_1
    refine zs_aload_n (k := 2) C dX3_seekBucket_14 rfl rfl ?_
    refine zs_iload_n (k := 0) C dX3_seekBucket_15 rfl rfl ?_
    refine pC_Worker_start C hp1 lkX3_191 dX3_seekBucket_16 ?_
    refine zs_aload_n (k := 2) C dX3_seekBucket_19 rfl rfl ?_
    refine zs_iconst (v := 3) C dX3_seekBucket_20 (by decide) ?_
    refine pC_Worker_place C hp1 lkX3_50 dX3_seekBucket_21 ?_
    refine zs_goto (tgt := 49) C dX3_seekBucket_24 (by decide) ?_
    exact zs_vret C hr dX3_seekBucket_49

def fn_X3_loadStart (σ : zs_T) (p1 : Nat) : zs_O := (if (fn_X3_mayLoad σ p1).2 = 0 then ((fn_X3_mayLoad σ p1).1, 0) else ((zs_u (zs_u (zs_u (fn_X3_mayLoad σ p1).1 18 p1 (((fn_X3_mayLoad σ p1).1) 17 p1)) 19 p1 (fr_X3_nextOf (zs_u (fn_X3_mayLoad σ p1).1 18 p1 (((fn_X3_mayLoad σ p1).1) 17 p1)) ((zs_u (fn_X3_mayLoad σ p1).1 18 p1 (((fn_X3_mayLoad σ p1).1) 17 p1)) 17 p1))) 10 p1 4), 0))
set_option maxHeartbeats 4000000 in
set_option maxRecDepth 100000 in
theorem m_X3_loadStart {l : Launch} {D : va_G} {cI cN cW : ClassId} {ad : Nat → Nat} (hJ : zs_J 88 ad) (d : Nat) (σ : zs_T) (p1 : Nat) (hp1 : p1 < 4) : zs_M l D vwCl (tysC cI cN cW) 88 ad (wC cI cN cW ad) yX3_loadStart (Cond.code yX3_loadStart cX3_loadStart 2 none :: zw_G) (zw_rm (d + 2)) [.ref (ad 0), .ref (ad (68 + p1))] zs_vv σ (fn_X3_loadStart σ p1) := by
  refine zs_ofZ (cc := cX3_loadStart) (nL := 2) (ret := none) (lv0 := [(0, .ref (ad 0)), (1, .ref (ad (68 + p1)))]) (by decide) rfl hJ (Nat.le_of_ble_eq_true rfl) rfl ?_
  intro p e s m args below meth c C hr
  unfold fn_X3_loadStart
  refine zs_aload_n (k := 0) C dX3_loadStart_0 rfl rfl ?_
  refine zs_aload_n (k := 1) C dX3_loadStart_1 rfl rfl ?_
  refine zk_callVi (As := [.ref (ad (68 + p1))]) (rest := []) C pk_X3_mayLoad (by decide) lkX3_200 (m_X3_mayLoad hJ (d + 1) σ p1 hp1) zc_recvS rfl rfl rfl (Nat.le_of_ble_eq_true rfl) dX3_loadStart_2 ?_
  refine zs_if_ne (tgt := 9) C dX3_loadStart_5 (by decide) (fun c_1 => ?_) (fun c_1 => ?_)
  · exact zs_vret C hr dX3_loadStart_8
  · refine zs_aload_n (k := 1) C dX3_loadStart_9 rfl rfl ?_
    refine zs_aload_n (k := 1) C dX3_loadStart_10 rfl rfl ?_
    refine gC_Worker_start C hp1 lkX3_191 dX3_loadStart_11 ?_
    refine pC_Worker_prev C hp1 lkX3_89 dX3_loadStart_14 ?_
    refine zs_aload_n (k := 1) C dX3_loadStart_17 rfl rfl ?_
    refine zs_aload_n (k := 0) C dX3_loadStart_18 rfl rfl ?_
    refine zs_aload_n (k := 1) C dX3_loadStart_19 rfl rfl ?_
    refine gC_Worker_start C hp1 lkX3_191 dX3_loadStart_20 ?_
    refine zk_callVi (As := [.int ((zs_u (fn_X3_mayLoad σ p1).1 18 p1 (((fn_X3_mayLoad σ p1).1) 17 p1)) 17 p1)]) (rest := [.ref (ad (68 + p1))]) C pk_X3_nextOf (by decide) lkX3_204 (m_X3_nextOf hJ d (zs_u (fn_X3_mayLoad σ p1).1 18 p1 (((fn_X3_mayLoad σ p1).1) 17 p1)) ((zs_u (fn_X3_mayLoad σ p1).1 18 p1 (((fn_X3_mayLoad σ p1).1) 17 p1)) 17 p1)) zc_recvS rfl rfl rfl (Nat.le_of_ble_eq_true rfl) dX3_loadStart_23 ?_
    refine pC_Worker_cur C hp1 lkX3_92 dX3_loadStart_26 ?_
    refine zs_aload_n (k := 1) C dX3_loadStart_29 rfl rfl ?_
    refine zs_iconst (v := 4) C dX3_loadStart_30 (by decide) ?_
    refine pC_Worker_place C hp1 lkX3_50 dX3_loadStart_31 ?_
    exact zs_vret C hr dX3_loadStart_34

def fn_X3_searchOver (σ : zs_T) (p1 : Nat) (x2 : Int32) : zs_O := (if fr_X1_isEmpty σ p1 = 0 then (if x2 = 0 then ((zs_u (zs_u σ 23 p1 (σ 19 p1)) 10 p1 7), 0) else ((zs_u (zs_u σ 23 p1 (σ 19 p1)) 10 p1 9), 0)) else (if σ 24 p1 = 0 then (if σ 11 p1 = 0 then (if x2 = 0 then ((fn_X3_end σ p1 (-1)).1, 0) else ((fn_X3_end σ p1 (fr_X3_valueOf σ (σ 19 p1))).1, 0)) else (if σ 11 p1 = 1 then (if x2 = 0 then (if σ 11 p1 = 1 then ((zs_u σ 10 p1 7), 0) else (if x2 = 0 then ((fn_X3_end σ p1 (-1)).1, 0) else ((zs_u σ 10 p1 10), 0))) else ((fn_X3_end σ p1 0).1, 0)) else (if σ 11 p1 = 1 then ((zs_u σ 10 p1 7), 0) else (if x2 = 0 then ((fn_X3_end σ p1 (-1)).1, 0) else ((zs_u σ 10 p1 10), 0))))) else ((zs_u σ 10 p1 12), 0)))
set_option maxHeartbeats 4000000 in
set_option maxRecDepth 100000 in
theorem m_X3_searchOver {l : Launch} {D : va_G} {cI cN cW : ClassId} {ad : Nat → Nat} (hJ : zs_J 88 ad) (d : Nat) (σ : zs_T) (p1 : Nat) (x2 : Int32) (hp1 : p1 < 4) : zs_M l D vwCl (tysC cI cN cW) 88 ad (wC cI cN cW ad) yX3_searchOver (Cond.code yX3_searchOver cX3_searchOver 3 none :: zw_G) (zw_rm (d + 3)) [.ref (ad 0), .ref (ad (68 + p1)), .int x2] zs_vv σ (fn_X3_searchOver σ p1 x2) := by
  refine zs_ofZ (cc := cX3_searchOver) (nL := 3) (ret := none) (lv0 := [(0, .ref (ad 0)), (1, .ref (ad (68 + p1))), (2, .int x2)]) (by decide) rfl hJ (Nat.le_of_ble_eq_true rfl) rfl ?_
  intro p e s m args below meth c C hr
  unfold fn_X3_searchOver
  refine zs_aload_n (k := 1) C dX3_searchOver_0 rfl rfl ?_
  refine gC_Worker_stack C hp1 lkX3_86 dX3_searchOver_1 ?_
  refine zk_callVi (As := []) (rest := []) C pk_X1_isEmpty (by decide) lkX3_222 (m_X1_isEmpty hJ (d + 2) σ p1 (zc_8a hp1)) (zc_recvNum (zc_8a hp1)) rfl rfl rfl (Nat.le_of_ble_eq_true rfl) dX3_searchOver_4 ?_
  refine zs_if_ne (tgt := 36) C dX3_searchOver_7 (by decide) (fun c_1 => ?_) (fun c_1 => ?_)
  · refine zs_aload_n (k := 1) C dX3_searchOver_10 rfl rfl ?_
    refine zs_aload_n (k := 1) C dX3_searchOver_11 rfl rfl ?_
    refine gC_Worker_cur C hp1 lkX3_92 dX3_searchOver_12 ?_
    refine pC_Worker_bucketNode C hp1 lkX3_226 dX3_searchOver_15 ?_
    refine zs_aload_n (k := 1) C dX3_searchOver_18 rfl rfl ?_
    refine zs_iload_n (k := 2) C dX3_searchOver_19 rfl rfl ?_
    refine zs_if_eq (tgt := 28) C dX3_searchOver_20 (by decide) (fun c_2 => ?_) (fun c_2 => ?_)
    · refine zs_bipush (v := 7) C dX3_searchOver_28 (by decide) ?_
      refine pC_Worker_place C hp1 lkX3_50 dX3_searchOver_30 ?_
      refine zs_goto (tgt := 140) C dX3_searchOver_33 (by decide) ?_
      exact zs_vret C hr dX3_searchOver_140
    · refine zs_bipush (v := 9) C dX3_searchOver_23 (by decide) ?_
      refine zs_goto (tgt := 30) C dX3_searchOver_25 (by decide) ?_
      refine pC_Worker_place C hp1 lkX3_50 dX3_searchOver_30 ?_
      refine zs_goto (tgt := 140) C dX3_searchOver_33 (by decide) ?_
      exact zs_vret C hr dX3_searchOver_140
  · refine zs_aload_n (k := 1) C dX3_searchOver_36 rfl rfl ?_
    refine gC_Worker_cleans C hp1 lkX3_229 dX3_searchOver_37 ?_
    refine zs_if_eq (tgt := 52) C dX3_searchOver_40 (by decide) (fun c_3 => ?_) (fun c_3 => ?_)
    · refine zs_aload_n (k := 1) C dX3_searchOver_52 rfl rfl ?_
      refine gC_Worker_operation C hp1 lkX3_232 dX3_searchOver_53 ?_
      refine zs_if_ne (tgt := 83) C dX3_searchOver_56 (by decide) (fun c_4 => ?_) (fun c_4 => ?_)
      · refine zs_aload_n (k := 0) C dX3_searchOver_59 rfl rfl ?_
        refine zs_aload_n (k := 1) C dX3_searchOver_60 rfl rfl ?_
        refine zs_iload_n (k := 2) C dX3_searchOver_61 rfl rfl ?_
        refine zs_if_eq (tgt := 76) C dX3_searchOver_62 (by decide) (fun c_5 => ?_) (fun c_5 => ?_)
        · refine zs_iconst (v := (-1)) C dX3_searchOver_76 (by decide) ?_
          refine zk_callVv (As := [.ref (ad (68 + p1)), .int (-1)]) (rest := []) C pk_X3_end (by decide) lkX3_238 (m_X3_end hJ d σ p1 (-1) hp1) zc_recvS rfl rfl rfl (Nat.le_of_ble_eq_true rfl) dX3_searchOver_77 ?_
          refine zs_goto (tgt := 140) C dX3_searchOver_80 (by decide) ?_
          exact zs_vret C hr dX3_searchOver_140
        · refine zs_aload_n (k := 0) C dX3_searchOver_65 rfl rfl ?_
          refine zs_aload_n (k := 1) C dX3_searchOver_66 rfl rfl ?_
          refine gC_Worker_cur C hp1 lkX3_92 dX3_searchOver_67 ?_
          refine zk_callVi (As := [.int (σ 19 p1)]) (rest := [.ref (ad (68 + p1)), .ref (ad 0)]) C pk_X3_valueOf (by decide) lkX3_235 (m_X3_valueOf hJ (d + 1) σ (σ 19 p1)) zc_recvS rfl rfl rfl (Nat.le_of_ble_eq_true rfl) dX3_searchOver_70 ?_
          refine zs_goto (tgt := 77) C dX3_searchOver_73 (by decide) ?_
          refine zk_callVv (As := [.ref (ad (68 + p1)), .int (fr_X3_valueOf σ (σ 19 p1))]) (rest := []) C pk_X3_end (by decide) lkX3_238 (m_X3_end hJ d σ p1 (fr_X3_valueOf σ (σ 19 p1)) hp1) zc_recvS rfl rfl rfl (Nat.le_of_ble_eq_true rfl) dX3_searchOver_77 ?_
          refine zs_goto (tgt := 140) C dX3_searchOver_80 (by decide) ?_
          exact zs_vret C hr dX3_searchOver_140
      · refine zs_aload_n (k := 1) C dX3_searchOver_83 rfl rfl ?_
        refine gC_Worker_operation C hp1 lkX3_232 dX3_searchOver_84 ?_
        refine zs_iconst (v := 1) C dX3_searchOver_87 (by decide) ?_
        refine zs_icmp_ne (tgt := 104) C dX3_searchOver_88 (by decide) (fun c_6 => ?_) (fun c_6 => ?_)
        · refine zs_iload_n (k := 2) C dX3_searchOver_91 rfl rfl ?_
          refine zs_if_eq (tgt := 104) C dX3_searchOver_92 (by decide) (fun c_7 => ?_) (fun c_7 => ?_)
          · refine zs_aload_n (k := 1) C dX3_searchOver_104 rfl rfl ?_
            refine gC_Worker_operation C hp1 lkX3_232 dX3_searchOver_105 ?_
            refine zs_iconst (v := 1) C dX3_searchOver_108 (by decide) ?_
            refine zs_icmp_ne (tgt := 121) C dX3_searchOver_109 (by decide) (fun c_8 => ?_) (fun c_8 => ?_)
            · refine zs_aload_n (k := 1) C dX3_searchOver_112 rfl rfl ?_
              refine zs_bipush (v := 7) C dX3_searchOver_113 (by decide) ?_
              refine pC_Worker_place C hp1 lkX3_50 dX3_searchOver_115 ?_
              refine zs_goto (tgt := 140) C dX3_searchOver_118 (by decide) ?_
              exact zs_vret C hr dX3_searchOver_140
            · refine zs_iload_n (k := 2) C dX3_searchOver_121 rfl rfl ?_
              refine zs_if_eq (tgt := 134) C dX3_searchOver_122 (by decide) (fun c_9 => ?_) (fun c_9 => ?_)
              · refine zs_aload_n (k := 0) C dX3_searchOver_134 rfl rfl ?_
                refine zs_aload_n (k := 1) C dX3_searchOver_135 rfl rfl ?_
                refine zs_iconst (v := (-1)) C dX3_searchOver_136 (by decide) ?_
                refine zk_callVv (As := [.ref (ad (68 + p1)), .int (-1)]) (rest := []) C pk_X3_end (by decide) lkX3_238 (m_X3_end hJ d σ p1 (-1) hp1) zc_recvS rfl rfl rfl (Nat.le_of_ble_eq_true rfl) dX3_searchOver_137 ?_
                exact zs_vret C hr dX3_searchOver_140
              · refine zs_aload_n (k := 1) C dX3_searchOver_125 rfl rfl ?_
                refine zs_bipush (v := 10) C dX3_searchOver_126 (by decide) ?_
                refine pC_Worker_place C hp1 lkX3_50 dX3_searchOver_128 ?_
                refine zs_goto (tgt := 140) C dX3_searchOver_131 (by decide) ?_
                exact zs_vret C hr dX3_searchOver_140
          · refine zs_aload_n (k := 0) C dX3_searchOver_95 rfl rfl ?_
            refine zs_aload_n (k := 1) C dX3_searchOver_96 rfl rfl ?_
            refine zs_iconst (v := 0) C dX3_searchOver_97 (by decide) ?_
            refine zk_callVv (As := [.ref (ad (68 + p1)), .int 0]) (rest := []) C pk_X3_end (by decide) lkX3_238 (m_X3_end hJ d σ p1 0 hp1) zc_recvS rfl rfl rfl (Nat.le_of_ble_eq_true rfl) dX3_searchOver_98 ?_
            refine zs_goto (tgt := 140) C dX3_searchOver_101 (by decide) ?_
            exact zs_vret C hr dX3_searchOver_140
        · refine zs_aload_n (k := 1) C dX3_searchOver_104 rfl rfl ?_
          refine gC_Worker_operation C hp1 lkX3_232 dX3_searchOver_105 ?_
          refine zs_iconst (v := 1) C dX3_searchOver_108 (by decide) ?_
          refine zs_icmp_ne (tgt := 121) C dX3_searchOver_109 (by decide) (fun c_10 => ?_) (fun c_10 => ?_)
          · refine zs_aload_n (k := 1) C dX3_searchOver_112 rfl rfl ?_
            refine zs_bipush (v := 7) C dX3_searchOver_113 (by decide) ?_
            refine pC_Worker_place C hp1 lkX3_50 dX3_searchOver_115 ?_
            refine zs_goto (tgt := 140) C dX3_searchOver_118 (by decide) ?_
            exact zs_vret C hr dX3_searchOver_140
          · refine zs_iload_n (k := 2) C dX3_searchOver_121 rfl rfl ?_
            refine zs_if_eq (tgt := 134) C dX3_searchOver_122 (by decide) (fun c_11 => ?_) (fun c_11 => ?_)
            · refine zs_aload_n (k := 0) C dX3_searchOver_134 rfl rfl ?_
              refine zs_aload_n (k := 1) C dX3_searchOver_135 rfl rfl ?_
              refine zs_iconst (v := (-1)) C dX3_searchOver_136 (by decide) ?_
              refine zk_callVv (As := [.ref (ad (68 + p1)), .int (-1)]) (rest := []) C pk_X3_end (by decide) lkX3_238 (m_X3_end hJ d σ p1 (-1) hp1) zc_recvS rfl rfl rfl (Nat.le_of_ble_eq_true rfl) dX3_searchOver_137 ?_
              exact zs_vret C hr dX3_searchOver_140
            · refine zs_aload_n (k := 1) C dX3_searchOver_125 rfl rfl ?_
              refine zs_bipush (v := 10) C dX3_searchOver_126 (by decide) ?_
              refine pC_Worker_place C hp1 lkX3_50 dX3_searchOver_128 ?_
              refine zs_goto (tgt := 140) C dX3_searchOver_131 (by decide) ?_
              exact zs_vret C hr dX3_searchOver_140
    · refine zs_aload_n (k := 1) C dX3_searchOver_43 rfl rfl ?_
      refine zs_bipush (v := 12) C dX3_searchOver_44 (by decide) ?_
      refine pC_Worker_place C hp1 lkX3_50 dX3_searchOver_46 ?_
      refine zs_goto (tgt := 140) C dX3_searchOver_49 (by decide) ?_
      exact zs_vret C hr dX3_searchOver_140

def fn_X3_loadCur (σ : zs_T) (p1 : Nat) : zs_O := (if fr_X3_isNode σ (σ 19 p1) = 0 then ((fn_X3_searchOver σ p1 0).1, 0) else (if (fn_X3_mayLoad σ p1).2 = 0 then ((fn_X3_mayLoad σ p1).1, 0) else ((zs_u (zs_u (zs_u (fn_X3_mayLoad σ p1).1 20 p1 (((fn_X3_mayLoad σ p1).1) 2 ((((fn_X3_mayLoad σ p1).1) 19 p1).toNatClampNeg))) 21 p1 ((zs_u (fn_X3_mayLoad σ p1).1 20 p1 (((fn_X3_mayLoad σ p1).1) 2 ((((fn_X3_mayLoad σ p1).1) 19 p1).toNatClampNeg))) 3 (((zs_u (fn_X3_mayLoad σ p1).1 20 p1 (((fn_X3_mayLoad σ p1).1) 2 ((((fn_X3_mayLoad σ p1).1) 19 p1).toNatClampNeg))) 19 p1).toNatClampNeg))) 10 p1 5), 0)))
def ok_X3_loadCur (σ : zs_T) (p1 : Nat) : Prop := (fr_X3_isNode σ (σ 19 p1) = 0 → True) ∧ (¬ (fr_X3_isNode σ (σ 19 p1) = 0) → ((fn_X3_mayLoad σ p1).2 = 0 → True) ∧ (¬ ((fn_X3_mayLoad σ p1).2 = 0) → vp_in (((fn_X3_mayLoad σ p1).1) 19 p1) 64 ∧ (vp_in ((zs_u (fn_X3_mayLoad σ p1).1 20 p1 (((fn_X3_mayLoad σ p1).1) 2 ((((fn_X3_mayLoad σ p1).1) 19 p1).toNatClampNeg))) 19 p1) 64 ∧ (zs_B ((zs_u (fn_X3_mayLoad σ p1).1 20 p1 (((fn_X3_mayLoad σ p1).1) 2 ((((fn_X3_mayLoad σ p1).1) 19 p1).toNatClampNeg))) 3 (((zs_u (fn_X3_mayLoad σ p1).1 20 p1 (((fn_X3_mayLoad σ p1).1) 2 ((((fn_X3_mayLoad σ p1).1) 19 p1).toNatClampNeg))) 19 p1).toNatClampNeg)) ∧ (True)))))
set_option maxHeartbeats 4000000 in
set_option maxRecDepth 100000 in
theorem m_X3_loadCur {l : Launch} {D : va_G} {cI cN cW : ClassId} {ad : Nat → Nat} (hJ : zs_J 88 ad) (d : Nat) (σ : zs_T) (p1 : Nat) (hp1 : p1 < 4) (hok : ok_X3_loadCur σ p1) : zs_M l D vwCl (tysC cI cN cW) 88 ad (wC cI cN cW ad) yX3_loadCur (Cond.code yX3_loadCur cX3_loadCur 2 none :: zw_G) (zw_rm (d + 4)) [.ref (ad 0), .ref (ad (68 + p1))] zs_vv σ (fn_X3_loadCur σ p1) := by
  refine zs_ofZ (cc := cX3_loadCur) (nL := 2) (ret := none) (lv0 := [(0, .ref (ad 0)), (1, .ref (ad (68 + p1)))]) (by decide) rfl hJ (Nat.le_of_ble_eq_true rfl) rfl ?_
  intro p e s m args below meth c C hr
  unfold ok_X3_loadCur at hok
  unfold fn_X3_loadCur
  refine zs_aload_n (k := 1) C dX3_loadCur_0 rfl rfl ?_
  refine gC_Worker_cur C hp1 lkX3_92 dX3_loadCur_1 ?_
  refine zk_callSi (As := [.int (σ 19 p1)]) (rest := []) C pk_X3_isNode (by decide) lkX3_103 (m_X3_isNode hJ (d + 3) σ (σ 19 p1)) rfl rfl (Nat.le_of_ble_eq_true rfl) dX3_loadCur_4 ?_
  refine zs_if_ne (tgt := 17) C dX3_loadCur_7 (by decide) (fun c_1 => ?_) (fun c_1 => ?_)
  · have hok := hok.1 c_1
    refine zs_aload_n (k := 0) C dX3_loadCur_10 rfl rfl ?_
    refine zs_aload_n (k := 1) C dX3_loadCur_11 rfl rfl ?_
    refine zs_iconst (v := 0) C dX3_loadCur_12 (by decide) ?_
    refine zk_callVv (As := [.ref (ad (68 + p1)), .int 0]) (rest := []) C pk_X3_searchOver (by decide) lkX3_207 (m_X3_searchOver hJ d σ p1 0 hp1) zc_recvS rfl rfl rfl (Nat.le_of_ble_eq_true rfl) dX3_loadCur_13 ?_
    exact zs_vret C hr dX3_loadCur_16
  · have hok := hok.2 c_1
    refine zs_aload_n (k := 0) C dX3_loadCur_17 rfl rfl ?_
    refine zs_aload_n (k := 1) C dX3_loadCur_18 rfl rfl ?_
    refine zk_callVi (As := [.ref (ad (68 + p1))]) (rest := []) C pk_X3_mayLoad (by decide) lkX3_200 (m_X3_mayLoad hJ (d + 3) σ p1 hp1) zc_recvS rfl rfl rfl (Nat.le_of_ble_eq_true rfl) dX3_loadCur_19 ?_
    refine zs_if_ne (tgt := 26) C dX3_loadCur_22 (by decide) (fun c_2 => ?_) (fun c_2 => ?_)
    · have hok := hok.1 c_2
      exact zs_vret C hr dX3_loadCur_25
    · have hok := hok.2 c_2
      refine zs_aload_n (k := 1) C dX3_loadCur_26 rfl rfl ?_
      refine zs_aload_n (k := 0) C dX3_loadCur_27 rfl rfl ?_
      refine gC_S_nodes C lkX3_11 dX3_loadCur_28 ?_
      refine zs_aload_n (k := 1) C dX3_loadCur_31 rfl rfl ?_
      refine gC_Worker_cur C hp1 lkX3_92 dX3_loadCur_32 ?_
      obtain ⟨h_3, hok⟩ := hok
      refine aC_nodes C h_3 dX3_loadCur_35 ?_
      refine gC_Node_next C (zs_lt h_3) lkX3_114 dX3_loadCur_36 ?_
      refine pC_Worker_nxt C hp1 lkX3_95 dX3_loadCur_39 ?_
      refine zs_aload_n (k := 1) C dX3_loadCur_42 rfl rfl ?_
      refine zs_aload_n (k := 0) C dX3_loadCur_43 rfl rfl ?_
      refine gC_S_nodes C lkX3_11 dX3_loadCur_44 ?_
      refine zs_aload_n (k := 1) C dX3_loadCur_47 rfl rfl ?_
      refine gC_Worker_cur C hp1 lkX3_92 dX3_loadCur_48 ?_
      obtain ⟨h_4, hok⟩ := hok
      refine aC_nodes C h_4 dX3_loadCur_51 ?_
      refine gC_Node_marked C (zs_lt h_4) lkX3_117 dX3_loadCur_52 ?_
      obtain ⟨h_5, hok⟩ := hok
      refine pC_Worker_curMarked C hp1 lkX3_211 h_5 dX3_loadCur_55 ?_
      refine zs_aload_n (k := 1) C dX3_loadCur_58 rfl rfl ?_
      refine zs_iconst (v := 5) C dX3_loadCur_59 (by decide) ?_
      refine pC_Worker_place C hp1 lkX3_50 dX3_loadCur_60 ?_
      exact zs_vret C hr dX3_loadCur_63

def fn_X3_compare (σ : zs_T) (p1 : Nat) : zs_O := (if fr_X3_isNode σ (σ 19 p1) = 0 then ((zs_u σ 10 p1 3), 0) else (if fr_X3_leadsTo σ (σ 18 p1) (σ 19 p1) = 0 then ((zs_u σ 10 p1 3), 0) else (if σ 21 p1 = 0 then (if σ 1 ((σ 19 p1).toNatClampNeg) < fr_X3_wantedOrder σ p1 then ((zs_u (zs_u (zs_u σ 18 p1 (σ 19 p1)) 19 p1 ((zs_u σ 18 p1 (σ 19 p1)) 20 p1)) 10 p1 4), 0) else (if σ 1 ((σ 19 p1).toNatClampNeg) = fr_X3_wantedOrder σ p1 then ((fn_X3_searchOver σ p1 1).1, 0) else ((fn_X3_searchOver σ p1 0).1, 0))) else ((zs_u σ 10 p1 6), 0))))
def ok_X3_compare (σ : zs_T) (p1 : Nat) : Prop := (fr_X3_isNode σ (σ 19 p1) = 0 → True) ∧ (¬ (fr_X3_isNode σ (σ 19 p1) = 0) → (fr_X3_leadsTo σ (σ 18 p1) (σ 19 p1) = 0 → True) ∧ (¬ (fr_X3_leadsTo σ (σ 18 p1) (σ 19 p1) = 0) → (σ 21 p1 = 0 → ok_X3_wantedOrder σ p1 ∧ (True)) ∧ (¬ (σ 21 p1 = 0) → True)))
set_option maxHeartbeats 4000000 in
set_option maxRecDepth 100000 in
theorem m_X3_compare {l : Launch} {D : va_G} {cI cN cW : ClassId} {ad : Nat → Nat} (hJ : zs_J 88 ad) (d : Nat) (σ : zs_T) (p1 : Nat) (hp1 : p1 < 4) (hok : ok_X3_compare σ p1) : zs_M l D vwCl (tysC cI cN cW) 88 ad (wC cI cN cW ad) yX3_compare (Cond.code yX3_compare cX3_compare 4 none :: zw_G) (zw_rm (d + 4)) [.ref (ad 0), .ref (ad (68 + p1))] zs_vv σ (fn_X3_compare σ p1) := by
  refine zs_ofZ (cc := cX3_compare) (nL := 4) (ret := none) (lv0 := [(0, .ref (ad 0)), (1, .ref (ad (68 + p1)))]) (by decide) rfl hJ (Nat.le_of_ble_eq_true rfl) rfl ?_
  intro p e s m args below meth c C hr
  unfold ok_X3_compare at hok
  unfold fn_X3_compare
  refine zs_aload_n (k := 1) C dX3_compare_0 rfl rfl ?_
  refine gC_Worker_cur C hp1 lkX3_92 dX3_compare_1 ?_
  refine zk_callSi (As := [.int (σ 19 p1)]) (rest := []) C pk_X3_isNode (by decide) lkX3_103 (m_X3_isNode hJ (d + 3) σ (σ 19 p1)) rfl rfl (Nat.le_of_ble_eq_true rfl) dX3_compare_4 ?_
  refine zs_if_eq (tgt := 25) C dX3_compare_7 (by decide) (fun c_1 => ?_) (fun c_1 => ?_)
  · have hok := hok.1 c_1
    refine zs_aload_n (k := 1) C dX3_compare_25 rfl rfl ?_
    refine zs_iconst (v := 3) C dX3_compare_26 (by decide) ?_
    refine pC_Worker_place C hp1 lkX3_50 dX3_compare_27 ?_
    exact zs_vret C hr dX3_compare_30
  · have hok := hok.2 c_1
    refine zs_aload_n (k := 0) C dX3_compare_10 rfl rfl ?_
    refine zs_aload_n (k := 1) C dX3_compare_11 rfl rfl ?_
    refine gC_Worker_prev C hp1 lkX3_89 dX3_compare_12 ?_
    refine zs_aload_n (k := 1) C dX3_compare_15 rfl rfl ?_
    refine gC_Worker_cur C hp1 lkX3_92 dX3_compare_16 ?_
    refine zk_callVi (As := [.int (σ 18 p1), .int (σ 19 p1)]) (rest := []) C pk_X3_leadsTo (by decide) lkX3_214 (m_X3_leadsTo hJ (d + 2) σ (σ 18 p1) (σ 19 p1)) zc_recvS rfl rfl rfl (Nat.le_of_ble_eq_true rfl) dX3_compare_19 ?_
    refine zs_if_ne (tgt := 31) C dX3_compare_22 (by decide) (fun c_2 => ?_) (fun c_2 => ?_)
    · have hok := hok.1 c_2
      refine zs_aload_n (k := 1) C dX3_compare_25 rfl rfl ?_
      refine zs_iconst (v := 3) C dX3_compare_26 (by decide) ?_
      refine pC_Worker_place C hp1 lkX3_50 dX3_compare_27 ?_
      exact zs_vret C hr dX3_compare_30
    · have hok := hok.2 c_2
      refine zs_aload_n (k := 1) C dX3_compare_31 rfl rfl ?_
      refine gC_Worker_curMarked C hp1 lkX3_211 dX3_compare_32 ?_
      refine zs_if_eq (tgt := 45) C dX3_compare_35 (by decide) (fun c_3 => ?_) (fun c_3 => ?_)
      · have hok := hok.1 c_3
        refine zs_aload_n (k := 0) C dX3_compare_45 rfl rfl ?_
        refine gC_S_nodes C lkX3_11 dX3_compare_46 ?_
        refine zs_aload_n (k := 1) C dX3_compare_49 rfl rfl ?_
        refine gC_Worker_cur C hp1 lkX3_92 dX3_compare_50 ?_
        refine aC_nodes C (zc_inNode c_1) dX3_compare_53 ?_
        refine gC_Node_order C (zs_lt (zc_inNode c_1)) lkX3_111 dX3_compare_54 ?_
        refine zs_istore_n (lv' := [(2, .int (σ 1 ((σ 19 p1).toNatClampNeg))), (0, .ref (ad 0)), (1, .ref (ad (68 + p1)))]) C dX3_compare_57 rfl (by decide) rfl ?_
        refine zs_aload_n (k := 2) C dX3_compare_58 rfl rfl ?_
        obtain ⟨h_4, hok⟩ := hok
        refine zk_callSi (As := [.ref (ad (68 + p1))]) (rest := []) C pk_X3_wantedOrder (by decide) lkX3_218 (m_X3_wantedOrder hJ (d + 1) σ p1 hp1 h_4) rfl rfl (Nat.le_of_ble_eq_true rfl) dX3_compare_59 ?_
        refine zs_istore_n (lv' := [(3, .int (fr_X3_wantedOrder σ p1)), (2, .int (σ 1 ((σ 19 p1).toNatClampNeg))), (0, .ref (ad 0)), (1, .ref (ad (68 + p1)))]) C dX3_compare_62 rfl (by decide) rfl ?_
        refine zs_iload_n (k := 1) C dX3_compare_63 rfl rfl ?_
        refine zs_iload_n (k := 0) C dX3_compare_64 rfl rfl ?_
        refine zs_icmp_ge (tgt := 92) C dX3_compare_65 (by decide) (fun c_5 => ?_) (fun c_5 => ?_)
        · refine zs_aload_n (k := 3) C dX3_compare_68 rfl rfl ?_
          refine zs_aload_n (k := 3) C dX3_compare_69 rfl rfl ?_
          refine gC_Worker_cur C hp1 lkX3_92 dX3_compare_70 ?_
          refine pC_Worker_prev C hp1 lkX3_89 dX3_compare_73 ?_
          refine zs_aload_n (k := 3) C dX3_compare_76 rfl rfl ?_
          refine zs_aload_n (k := 3) C dX3_compare_77 rfl rfl ?_
          refine gC_Worker_nxt C hp1 lkX3_95 dX3_compare_78 ?_
          refine pC_Worker_cur C hp1 lkX3_92 dX3_compare_81 ?_
          refine zs_aload_n (k := 3) C dX3_compare_84 rfl rfl ?_
          refine zs_iconst (v := 4) C dX3_compare_85 (by decide) ?_
          refine pC_Worker_place C hp1 lkX3_50 dX3_compare_86 ?_
          refine zs_goto (tgt := 107) C dX3_compare_89 (by decide) ?_
          exact zs_vret C hr dX3_compare_107
        · refine zs_aload_n (k := 2) C dX3_compare_92 rfl rfl ?_
          refine zs_aload_n (k := 3) C dX3_compare_93 rfl rfl ?_
          refine zs_iload_n (k := 1) C dX3_compare_94 rfl rfl ?_
          refine zs_iload_n (k := 0) C dX3_compare_95 rfl rfl ?_
          refine zs_icmp_ne (tgt := 103) C dX3_compare_96 (by decide) (fun c_6 => ?_) (fun c_6 => ?_)
          · refine zs_iconst (v := 1) C dX3_compare_99 (by decide) ?_
            refine zs_goto (tgt := 104) C dX3_compare_100 (by decide) ?_
            refine zk_callVv (As := [.ref (ad (68 + p1)), .int 1]) (rest := []) C pk_X3_searchOver (by decide) lkX3_207 (m_X3_searchOver hJ d σ p1 1 hp1) zc_recvS rfl rfl rfl (Nat.le_of_ble_eq_true rfl) dX3_compare_104 ?_
            exact zs_vret C hr dX3_compare_107
          · refine zs_iconst (v := 0) C dX3_compare_103 (by decide) ?_
            refine zk_callVv (As := [.ref (ad (68 + p1)), .int 0]) (rest := []) C pk_X3_searchOver (by decide) lkX3_207 (m_X3_searchOver hJ d σ p1 0 hp1) zc_recvS rfl rfl rfl (Nat.le_of_ble_eq_true rfl) dX3_compare_104 ?_
            exact zs_vret C hr dX3_compare_107
      · have hok := hok.2 c_3
        refine zs_aload_n (k := 1) C dX3_compare_38 rfl rfl ?_
        refine zs_bipush (v := 6) C dX3_compare_39 (by decide) ?_
        refine pC_Worker_place C hp1 lkX3_50 dX3_compare_41 ?_
        exact zs_vret C hr dX3_compare_44

def fn_X3_unlinkMarked (σ : zs_T) (p1 : Nat) : zs_O := (if (fn_X3_change σ (σ 18 p1) (σ 19 p1) (σ 20 p1) 0).2 = 0 then ((zs_u (fn_X3_change σ (σ 18 p1) (σ 19 p1) (σ 20 p1) 0).1 10 p1 3), 0) else ((zs_u (zs_u (fn_X3_retire ((fn_X3_change σ (σ 18 p1) (σ 19 p1) (σ 20 p1) 0).1) p1 (((fn_X3_change σ (σ 18 p1) (σ 19 p1) (σ 20 p1) 0).1) 19 p1)).1 19 p1 (((fn_X3_retire ((fn_X3_change σ (σ 18 p1) (σ 19 p1) (σ 20 p1) 0).1) p1 (((fn_X3_change σ (σ 18 p1) (σ 19 p1) (σ 20 p1) 0).1) 19 p1)).1) 20 p1)) 10 p1 4), 0))
def ok_X3_unlinkMarked (σ : zs_T) (p1 : Nat) : Prop := ok_X3_change σ (σ 18 p1) (σ 19 p1) (σ 20 p1) 0 ∧ (((fn_X3_change σ (σ 18 p1) (σ 19 p1) (σ 20 p1) 0).2 = 0 → True) ∧ (¬ ((fn_X3_change σ (σ 18 p1) (σ 19 p1) (σ 20 p1) 0).2 = 0) → ok_X3_retire ((fn_X3_change σ (σ 18 p1) (σ 19 p1) (σ 20 p1) 0).1) p1 (((fn_X3_change σ (σ 18 p1) (σ 19 p1) (σ 20 p1) 0).1) 19 p1) ∧ (True)))
set_option maxHeartbeats 4000000 in
set_option maxRecDepth 100000 in
theorem m_X3_unlinkMarked {l : Launch} {D : va_G} {cI cN cW : ClassId} {ad : Nat → Nat} (hJ : zs_J 88 ad) (d : Nat) (σ : zs_T) (p1 : Nat) (hp1 : p1 < 4) (hok : ok_X3_unlinkMarked σ p1) : zs_M l D vwCl (tysC cI cN cW) 88 ad (wC cI cN cW ad) yX3_unlinkMarked (Cond.code yX3_unlinkMarked cX3_unlinkMarked 2 none :: zw_G) (zw_rm (d + 3)) [.ref (ad 0), .ref (ad (68 + p1))] zs_vv σ (fn_X3_unlinkMarked σ p1) := by
  refine zs_ofZ (cc := cX3_unlinkMarked) (nL := 2) (ret := none) (lv0 := [(0, .ref (ad 0)), (1, .ref (ad (68 + p1)))]) (by decide) rfl hJ (Nat.le_of_ble_eq_true rfl) rfl ?_
  intro p e s m args below meth c C hr
  unfold ok_X3_unlinkMarked at hok
  unfold fn_X3_unlinkMarked
  refine zs_aload_n (k := 0) C dX3_unlinkMarked_0 rfl rfl ?_
  refine zs_aload_n (k := 1) C dX3_unlinkMarked_1 rfl rfl ?_
  refine gC_Worker_prev C hp1 lkX3_89 dX3_unlinkMarked_2 ?_
  refine zs_aload_n (k := 1) C dX3_unlinkMarked_5 rfl rfl ?_
  refine gC_Worker_cur C hp1 lkX3_92 dX3_unlinkMarked_6 ?_
  refine zs_aload_n (k := 1) C dX3_unlinkMarked_9 rfl rfl ?_
  refine gC_Worker_nxt C hp1 lkX3_95 dX3_unlinkMarked_10 ?_
  refine zs_iconst (v := 0) C dX3_unlinkMarked_13 (by decide) ?_
  obtain ⟨h_1, hok⟩ := hok
  refine zk_callVi (As := [.int (σ 18 p1), .int (σ 19 p1), .int (σ 20 p1), .int 0]) (rest := []) C pk_X3_change (by decide) lkX3_242 (m_X3_change hJ d σ (σ 18 p1) (σ 19 p1) (σ 20 p1) 0 h_1) zc_recvS rfl rfl rfl (Nat.le_of_ble_eq_true rfl) dX3_unlinkMarked_14 ?_
  refine zs_if_eq (tgt := 45) C dX3_unlinkMarked_17 (by decide) (fun c_2 => ?_) (fun c_2 => ?_)
  · have hok := hok.1 c_2
    refine zs_aload_n (k := 1) C dX3_unlinkMarked_45 rfl rfl ?_
    refine zs_iconst (v := 3) C dX3_unlinkMarked_46 (by decide) ?_
    refine pC_Worker_place C hp1 lkX3_50 dX3_unlinkMarked_47 ?_
    exact zs_vret C hr dX3_unlinkMarked_50
  · have hok := hok.2 c_2
    refine zs_aload_n (k := 0) C dX3_unlinkMarked_20 rfl rfl ?_
    refine zs_aload_n (k := 1) C dX3_unlinkMarked_21 rfl rfl ?_
    refine zs_aload_n (k := 1) C dX3_unlinkMarked_22 rfl rfl ?_
    refine gC_Worker_cur C hp1 lkX3_92 dX3_unlinkMarked_23 ?_
    obtain ⟨h_3, hok⟩ := hok
    refine zk_callVv (As := [.ref (ad (68 + p1)), .int (((fn_X3_change σ (σ 18 p1) (σ 19 p1) (σ 20 p1) 0).1) 19 p1)]) (rest := []) C pk_X3_retire (by decide) lkX3_246 (m_X3_retire hJ (d + 1) ((fn_X3_change σ (σ 18 p1) (σ 19 p1) (σ 20 p1) 0).1) p1 (((fn_X3_change σ (σ 18 p1) (σ 19 p1) (σ 20 p1) 0).1) 19 p1) hp1 h_3) zc_recvS rfl rfl rfl (Nat.le_of_ble_eq_true rfl) dX3_unlinkMarked_26 ?_
    refine zs_aload_n (k := 1) C dX3_unlinkMarked_29 rfl rfl ?_
    refine zs_aload_n (k := 1) C dX3_unlinkMarked_30 rfl rfl ?_
    refine gC_Worker_nxt C hp1 lkX3_95 dX3_unlinkMarked_31 ?_
    refine pC_Worker_cur C hp1 lkX3_92 dX3_unlinkMarked_34 ?_
    refine zs_aload_n (k := 1) C dX3_unlinkMarked_37 rfl rfl ?_
    refine zs_iconst (v := 4) C dX3_unlinkMarked_38 (by decide) ?_
    refine pC_Worker_place C hp1 lkX3_50 dX3_unlinkMarked_39 ?_
    refine zs_goto (tgt := 50) C dX3_unlinkMarked_42 (by decide) ?_
    exact zs_vret C hr dX3_unlinkMarked_50

def fn_X3_prepare (σ : zs_T) (p1 : Nat) : zs_O := (if σ 22 p1 = (-1) then (if fr_X3_isNode (zs_u (fn_X3_takeFreeNode σ p1).1 22 p1 ((fn_X3_takeFreeNode σ p1).2)) ((zs_u (fn_X3_takeFreeNode σ p1).1 22 p1 ((fn_X3_takeFreeNode σ p1).2)) 22 p1) = 0 then ((fn_X3_end (zs_u (fn_X3_takeFreeNode σ p1).1 22 p1 ((fn_X3_takeFreeNode σ p1).2)) p1 (-2)).1, 0) else ((zs_u (fn_X0_pointTo (zs_u (fn_X3_takeFreeNode σ p1).1 22 p1 ((fn_X3_takeFreeNode σ p1).2)) (((zs_u (fn_X3_takeFreeNode σ p1).1 22 p1 ((fn_X3_takeFreeNode σ p1).2)) 22 p1).toNatClampNeg) ((zs_u (fn_X3_takeFreeNode σ p1).1 22 p1 ((fn_X3_takeFreeNode σ p1).2)) 19 p1) 0).1 10 p1 8), 0)) else (if fr_X3_isNode σ (σ 22 p1) = 0 then ((fn_X3_end σ p1 (-2)).1, 0) else ((zs_u (fn_X0_pointTo σ ((σ 22 p1).toNatClampNeg) (σ 19 p1) 0).1 10 p1 8), 0)))
def ok_X3_prepare (σ : zs_T) (p1 : Nat) : Prop := (σ 22 p1 = (-1) → ok_X3_takeFreeNode σ p1 ∧ ((fr_X3_isNode (zs_u (fn_X3_takeFreeNode σ p1).1 22 p1 ((fn_X3_takeFreeNode σ p1).2)) ((zs_u (fn_X3_takeFreeNode σ p1).1 22 p1 ((fn_X3_takeFreeNode σ p1).2)) 22 p1) = 0 → True) ∧ (¬ (fr_X3_isNode (zs_u (fn_X3_takeFreeNode σ p1).1 22 p1 ((fn_X3_takeFreeNode σ p1).2)) ((zs_u (fn_X3_takeFreeNode σ p1).1 22 p1 ((fn_X3_takeFreeNode σ p1).2)) 22 p1) = 0) → ok_X0_pointTo (zs_u (fn_X3_takeFreeNode σ p1).1 22 p1 ((fn_X3_takeFreeNode σ p1).2)) (((zs_u (fn_X3_takeFreeNode σ p1).1 22 p1 ((fn_X3_takeFreeNode σ p1).2)) 22 p1).toNatClampNeg) ((zs_u (fn_X3_takeFreeNode σ p1).1 22 p1 ((fn_X3_takeFreeNode σ p1).2)) 19 p1) 0 ∧ (True)))) ∧ (¬ (σ 22 p1 = (-1)) → (fr_X3_isNode σ (σ 22 p1) = 0 → True) ∧ (¬ (fr_X3_isNode σ (σ 22 p1) = 0) → ok_X0_pointTo σ ((σ 22 p1).toNatClampNeg) (σ 19 p1) 0 ∧ (True)))
set_option maxHeartbeats 4000000 in
set_option maxRecDepth 100000 in
theorem m_X3_prepare {l : Launch} {D : va_G} {cI cN cW : ClassId} {ad : Nat → Nat} (hJ : zs_J 88 ad) (d : Nat) (σ : zs_T) (p1 : Nat) (hp1 : p1 < 4) (hok : ok_X3_prepare σ p1) : zs_M l D vwCl (tysC cI cN cW) 88 ad (wC cI cN cW ad) yX3_prepare (Cond.code yX3_prepare cX3_prepare 2 none :: zw_G) (zw_rm (d + 4)) [.ref (ad 0), .ref (ad (68 + p1))] zs_vv σ (fn_X3_prepare σ p1) := by
  refine zs_ofZ (cc := cX3_prepare) (nL := 2) (ret := none) (lv0 := [(0, .ref (ad 0)), (1, .ref (ad (68 + p1)))]) (by decide) rfl hJ (Nat.le_of_ble_eq_true rfl) rfl ?_
  intro p e s m args below meth c C hr
  unfold ok_X3_prepare at hok
  unfold fn_X3_prepare
  refine zs_aload_n (k := 1) C dX3_prepare_0 rfl rfl ?_
  refine gC_Worker_own C hp1 lkX3_98 dX3_prepare_1 ?_
  refine zs_iconst (v := (-1)) C dX3_prepare_4 (by decide) ?_
  refine zs_icmp_ne (tgt := 17) C dX3_prepare_5 (by decide) (fun c_1 => ?_) (fun c_1 => ?_)
  · have hok := hok.1 c_1
    refine zs_aload_n (k := 1) C dX3_prepare_8 rfl rfl ?_
    refine zs_aload_n (k := 0) C dX3_prepare_9 rfl rfl ?_
    refine zs_aload_n (k := 1) C dX3_prepare_10 rfl rfl ?_
    obtain ⟨h_2, hok⟩ := hok
    refine zk_callVi (As := [.ref (ad (68 + p1))]) (rest := [.ref (ad (68 + p1))]) C pk_X3_takeFreeNode (by decide) lkX3_249 (m_X3_takeFreeNode hJ d σ p1 hp1 h_2) zc_recvS rfl rfl rfl (Nat.le_of_ble_eq_true rfl) dX3_prepare_11 ?_
    refine pC_Worker_own C hp1 lkX3_98 dX3_prepare_14 ?_
    refine zs_aload_n (k := 1) C dX3_prepare_17 rfl rfl ?_
    refine gC_Worker_own C hp1 lkX3_98 dX3_prepare_18 ?_
    refine zk_callSi (As := [.int ((zs_u (fn_X3_takeFreeNode σ p1).1 22 p1 ((fn_X3_takeFreeNode σ p1).2)) 22 p1)]) (rest := []) C pk_X3_isNode (by decide) lkX3_103 (m_X3_isNode hJ (d + 3) (zs_u (fn_X3_takeFreeNode σ p1).1 22 p1 ((fn_X3_takeFreeNode σ p1).2)) ((zs_u (fn_X3_takeFreeNode σ p1).1 22 p1 ((fn_X3_takeFreeNode σ p1).2)) 22 p1)) rfl rfl (Nat.le_of_ble_eq_true rfl) dX3_prepare_21 ?_
    refine zs_if_ne (tgt := 35) C dX3_prepare_24 (by decide) (fun c_3 => ?_) (fun c_3 => ?_)
    · have hok := hok.1 c_3
      refine zs_aload_n (k := 0) C dX3_prepare_27 rfl rfl ?_
      refine zs_aload_n (k := 1) C dX3_prepare_28 rfl rfl ?_
      refine zs_bipush (v := (-2)) C dX3_prepare_29 (by decide) ?_
      refine zk_callVv (As := [.ref (ad (68 + p1)), .int (-2)]) (rest := []) C pk_X3_end (by decide) lkX3_238 (m_X3_end hJ (d + 1) (zs_u (fn_X3_takeFreeNode σ p1).1 22 p1 ((fn_X3_takeFreeNode σ p1).2)) p1 (-2) hp1) zc_recvS rfl rfl rfl (Nat.le_of_ble_eq_true rfl) dX3_prepare_31 ?_
      exact zs_vret C hr dX3_prepare_34
    · have hok := hok.2 c_3
      refine zs_aload_n (k := 0) C dX3_prepare_35 rfl rfl ?_
      refine gC_S_nodes C lkX3_11 dX3_prepare_36 ?_
      refine zs_aload_n (k := 1) C dX3_prepare_39 rfl rfl ?_
      refine gC_Worker_own C hp1 lkX3_98 dX3_prepare_40 ?_
      refine aC_nodes C (zc_inNode c_3) dX3_prepare_43 ?_
      refine zs_aload_n (k := 1) C dX3_prepare_44 rfl rfl ?_
      refine gC_Worker_cur C hp1 lkX3_92 dX3_prepare_45 ?_
      refine zs_iconst (v := 0) C dX3_prepare_48 (by decide) ?_
      obtain ⟨h_4, hok⟩ := hok
      refine zk_callVv (As := [.int ((zs_u (fn_X3_takeFreeNode σ p1).1 22 p1 ((fn_X3_takeFreeNode σ p1).2)) 19 p1), .int 0]) (rest := []) C pk_X0_pointTo (by decide) lkX3_252 (m_X0_pointTo hJ (d + 3) (zs_u (fn_X3_takeFreeNode σ p1).1 22 p1 ((fn_X3_takeFreeNode σ p1).2)) (((zs_u (fn_X3_takeFreeNode σ p1).1 22 p1 ((fn_X3_takeFreeNode σ p1).2)) 22 p1).toNatClampNeg) ((zs_u (fn_X3_takeFreeNode σ p1).1 22 p1 ((fn_X3_takeFreeNode σ p1).2)) 19 p1) 0 (zs_lt (zc_inNode c_3)) h_4) (zc_recvNode (zs_lt (zc_inNode c_3))) rfl rfl rfl (Nat.le_of_ble_eq_true rfl) dX3_prepare_49 ?_
      refine zs_aload_n (k := 1) C dX3_prepare_52 rfl rfl ?_
      refine zs_bipush (v := 8) C dX3_prepare_53 (by decide) ?_
      refine pC_Worker_place C hp1 lkX3_50 dX3_prepare_55 ?_
      exact zs_vret C hr dX3_prepare_58
  · have hok := hok.2 c_1
    refine zs_aload_n (k := 1) C dX3_prepare_17 rfl rfl ?_
    refine gC_Worker_own C hp1 lkX3_98 dX3_prepare_18 ?_
    refine zk_callSi (As := [.int (σ 22 p1)]) (rest := []) C pk_X3_isNode (by decide) lkX3_103 (m_X3_isNode hJ (d + 3) σ (σ 22 p1)) rfl rfl (Nat.le_of_ble_eq_true rfl) dX3_prepare_21 ?_
    refine zs_if_ne (tgt := 35) C dX3_prepare_24 (by decide) (fun c_5 => ?_) (fun c_5 => ?_)
    · have hok := hok.1 c_5
      refine zs_aload_n (k := 0) C dX3_prepare_27 rfl rfl ?_
      refine zs_aload_n (k := 1) C dX3_prepare_28 rfl rfl ?_
      refine zs_bipush (v := (-2)) C dX3_prepare_29 (by decide) ?_
      refine zk_callVv (As := [.ref (ad (68 + p1)), .int (-2)]) (rest := []) C pk_X3_end (by decide) lkX3_238 (m_X3_end hJ (d + 1) σ p1 (-2) hp1) zc_recvS rfl rfl rfl (Nat.le_of_ble_eq_true rfl) dX3_prepare_31 ?_
      exact zs_vret C hr dX3_prepare_34
    · have hok := hok.2 c_5
      refine zs_aload_n (k := 0) C dX3_prepare_35 rfl rfl ?_
      refine gC_S_nodes C lkX3_11 dX3_prepare_36 ?_
      refine zs_aload_n (k := 1) C dX3_prepare_39 rfl rfl ?_
      refine gC_Worker_own C hp1 lkX3_98 dX3_prepare_40 ?_
      refine aC_nodes C (zc_inNode c_5) dX3_prepare_43 ?_
      refine zs_aload_n (k := 1) C dX3_prepare_44 rfl rfl ?_
      refine gC_Worker_cur C hp1 lkX3_92 dX3_prepare_45 ?_
      refine zs_iconst (v := 0) C dX3_prepare_48 (by decide) ?_
      obtain ⟨h_6, hok⟩ := hok
      refine zk_callVv (As := [.int (σ 19 p1), .int 0]) (rest := []) C pk_X0_pointTo (by decide) lkX3_252 (m_X0_pointTo hJ (d + 3) σ ((σ 22 p1).toNatClampNeg) (σ 19 p1) 0 (zs_lt (zc_inNode c_5)) h_6) (zc_recvNode (zs_lt (zc_inNode c_5))) rfl rfl rfl (Nat.le_of_ble_eq_true rfl) dX3_prepare_49 ?_
      refine zs_aload_n (k := 1) C dX3_prepare_52 rfl rfl ?_
      refine zs_bipush (v := 8) C dX3_prepare_53 (by decide) ?_
      refine pC_Worker_place C hp1 lkX3_50 dX3_prepare_55 ?_
      exact zs_vret C hr dX3_prepare_58

def fn_X3_link (σ : zs_T) (p1 : Nat) : zs_O := (if (fn_X3_change σ (σ 18 p1) (σ 19 p1) (σ 22 p1) 0).2 = 0 then ((zs_u (fn_X3_change σ (σ 18 p1) (σ 19 p1) (σ 22 p1) 0).1 10 p1 3), 0) else (if fr_X1_isEmpty (zs_u (fn_X3_change σ (σ 18 p1) (σ 19 p1) (σ 22 p1) 0).1 22 p1 (-1)) p1 = 0 then ((zs_u (zs_u (zs_u (fn_X3_change σ (σ 18 p1) (σ 19 p1) (σ 22 p1) 0).1 22 p1 (-1)) 23 p1 (((fn_X3_change σ (σ 18 p1) (σ 19 p1) (σ 22 p1) 0).1) 22 p1)) 10 p1 9), 0) else ((zs_u (zs_u (zs_u (fn_X3_change σ (σ 18 p1) (σ 19 p1) (σ 22 p1) 0).1 22 p1 (-1)) 33 0 (((zs_u (fn_X3_change σ (σ 18 p1) (σ 19 p1) (σ 22 p1) 0).1 22 p1 (-1)) 33 0) + 1)) 10 p1 13), 0)))
def ok_X3_link (σ : zs_T) (p1 : Nat) : Prop := ok_X3_change σ (σ 18 p1) (σ 19 p1) (σ 22 p1) 0 ∧ (True)
set_option maxHeartbeats 4000000 in
set_option maxRecDepth 100000 in
theorem m_X3_link {l : Launch} {D : va_G} {cI cN cW : ClassId} {ad : Nat → Nat} (hJ : zs_J 88 ad) (d : Nat) (σ : zs_T) (p1 : Nat) (hp1 : p1 < 4) (hok : ok_X3_link σ p1) : zs_M l D vwCl (tysC cI cN cW) 88 ad (wC cI cN cW ad) yX3_link (Cond.code yX3_link cX3_link 3 none :: zw_G) (zw_rm (d + 3)) [.ref (ad 0), .ref (ad (68 + p1))] zs_vv σ (fn_X3_link σ p1) := by
  refine zs_ofZ (cc := cX3_link) (nL := 3) (ret := none) (lv0 := [(0, .ref (ad 0)), (1, .ref (ad (68 + p1)))]) (by decide) rfl hJ (Nat.le_of_ble_eq_true rfl) rfl ?_
  intro p e s m args below meth c C hr
  unfold ok_X3_link at hok
  unfold fn_X3_link
  refine zs_aload_n (k := 0) C dX3_link_0 rfl rfl ?_
  refine zs_aload_n (k := 1) C dX3_link_1 rfl rfl ?_
  refine gC_Worker_prev C hp1 lkX3_89 dX3_link_2 ?_
  refine zs_aload_n (k := 1) C dX3_link_5 rfl rfl ?_
  refine gC_Worker_cur C hp1 lkX3_92 dX3_link_6 ?_
  refine zs_aload_n (k := 1) C dX3_link_9 rfl rfl ?_
  refine gC_Worker_own C hp1 lkX3_98 dX3_link_10 ?_
  refine zs_iconst (v := 0) C dX3_link_13 (by decide) ?_
  obtain ⟨h_1, hok⟩ := hok
  refine zk_callVi (As := [.int (σ 18 p1), .int (σ 19 p1), .int (σ 22 p1), .int 0]) (rest := []) C pk_X3_change (by decide) lkX3_242 (m_X3_change hJ d σ (σ 18 p1) (σ 19 p1) (σ 22 p1) 0 h_1) zc_recvS rfl rfl rfl (Nat.le_of_ble_eq_true rfl) dX3_link_14 ?_
  refine zs_if_ne (tgt := 26) C dX3_link_17 (by decide) (fun c_2 => ?_) (fun c_2 => ?_)
  · refine zs_aload_n (k := 1) C dX3_link_20 rfl rfl ?_
    refine zs_iconst (v := 3) C dX3_link_21 (by decide) ?_
    refine pC_Worker_place C hp1 lkX3_50 dX3_link_22 ?_
    exact zs_vret C hr dX3_link_25
  · refine zs_aload_n (k := 1) C dX3_link_26 rfl rfl ?_
    refine gC_Worker_own C hp1 lkX3_98 dX3_link_27 ?_
    refine zs_istore_n (lv' := [(2, .int (((fn_X3_change σ (σ 18 p1) (σ 19 p1) (σ 22 p1) 0).1) 22 p1)), (0, .ref (ad 0)), (1, .ref (ad (68 + p1)))]) C dX3_link_30 rfl (by decide) rfl ?_
    refine zs_aload_n (k := 2) C dX3_link_31 rfl rfl ?_
    refine zs_iconst (v := (-1)) C dX3_link_32 (by decide) ?_
    refine pC_Worker_own C hp1 lkX3_98 dX3_link_33 ?_
    refine zs_aload_n (k := 2) C dX3_link_36 rfl rfl ?_
    refine gC_Worker_stack C hp1 lkX3_86 dX3_link_37 ?_
    refine zk_callVi (As := []) (rest := []) C pk_X1_isEmpty (by decide) lkX3_222 (m_X1_isEmpty hJ (d + 2) (zs_u (fn_X3_change σ (σ 18 p1) (σ 19 p1) (σ 22 p1) 0).1 22 p1 (-1)) p1 (zc_8a hp1)) (zc_recvNum (zc_8a hp1)) rfl rfl rfl (Nat.le_of_ble_eq_true rfl) dX3_link_40 ?_
    refine zs_if_eq (tgt := 65) C dX3_link_43 (by decide) (fun c_3 => ?_) (fun c_3 => ?_)
    · refine zs_aload_n (k := 2) C dX3_link_65 rfl rfl ?_
      refine zs_iload_n (k := 0) C dX3_link_66 rfl rfl ?_
      refine pC_Worker_bucketNode C hp1 lkX3_226 dX3_link_67 ?_
      refine zs_aload_n (k := 2) C dX3_link_70 rfl rfl ?_
      refine zs_bipush (v := 9) C dX3_link_71 (by decide) ?_
      refine pC_Worker_place C hp1 lkX3_50 dX3_link_73 ?_
      exact zs_vret C hr dX3_link_76
    · refine zs_aload_n (k := 1) C dX3_link_46 rfl rfl ?_
      refine zs_dup C dX3_link_47 rfl ?_
      refine gC_S_count C lkX3_29 dX3_link_48 ?_
      refine zs_iconst (v := 1) C dX3_link_51 (by decide) ?_
      refine zs_iadd C dX3_link_52 ?_
      refine pC_S_count C lkX3_29 dX3_link_53 ?_
      refine zs_aload_n (k := 2) C dX3_link_56 rfl rfl ?_
      refine zs_bipush (v := 13) C dX3_link_57 (by decide) ?_
      refine pC_Worker_place C hp1 lkX3_50 dX3_link_59 ?_
      refine zs_goto (tgt := 76) C dX3_link_62 (by decide) ?_
      exact zs_vret C hr dX3_link_76

def fn_X3_setBucket (σ : zs_T) (p1 : Nat) : zs_O := (if fr_X3_isBucket ((fn_X3_freeOwn σ p1).1) (fr_X1_top ((fn_X3_freeOwn σ p1).1) p1) = 0 then ((zs_u (zs_u (fn_X1_dropTop ((fn_X3_freeOwn σ p1).1) p1).1 17 p1 (((fn_X1_dropTop ((fn_X3_freeOwn σ p1).1) p1).1) 23 p1)) 10 p1 3), 0) else (if ((fn_X3_freeOwn σ p1).1) 31 ((fr_X1_top ((fn_X3_freeOwn σ p1).1) p1).toNatClampNeg) = (-1) then ((zs_u (zs_u (fn_X1_dropTop (zs_u (fn_X3_freeOwn σ p1).1 31 ((fr_X1_top ((fn_X3_freeOwn σ p1).1) p1).toNatClampNeg) (((fn_X3_freeOwn σ p1).1) 23 p1)) p1).1 17 p1 (((fn_X1_dropTop (zs_u (fn_X3_freeOwn σ p1).1 31 ((fr_X1_top ((fn_X3_freeOwn σ p1).1) p1).toNatClampNeg) (((fn_X3_freeOwn σ p1).1) 23 p1)) p1).1) 23 p1)) 10 p1 3), 0) else ((zs_u (zs_u (fn_X1_dropTop ((fn_X3_freeOwn σ p1).1) p1).1 17 p1 (((fn_X1_dropTop ((fn_X3_freeOwn σ p1).1) p1).1) 23 p1)) 10 p1 3), 0)))
def ok_X3_setBucket (σ : zs_T) (p1 : Nat) : Prop := ok_X1_top ((fn_X3_freeOwn σ p1).1) p1 ∧ (True)
set_option maxHeartbeats 4000000 in
set_option maxRecDepth 100000 in
theorem m_X3_setBucket {l : Launch} {D : va_G} {cI cN cW : ClassId} {ad : Nat → Nat} (hJ : zs_J 88 ad) (d : Nat) (σ : zs_T) (p1 : Nat) (hp1 : p1 < 4) (hok : ok_X3_setBucket σ p1) : zs_M l D vwCl (tysC cI cN cW) 88 ad (wC cI cN cW ad) yX3_setBucket (Cond.code yX3_setBucket cX3_setBucket 3 none :: zw_G) (zw_rm (d + 2)) [.ref (ad 0), .ref (ad (68 + p1))] zs_vv σ (fn_X3_setBucket σ p1) := by
  refine zs_ofZ (cc := cX3_setBucket) (nL := 3) (ret := none) (lv0 := [(0, .ref (ad 0)), (1, .ref (ad (68 + p1)))]) (by decide) rfl hJ (Nat.le_of_ble_eq_true rfl) rfl ?_
  intro p e s m args below meth c C hr
  unfold ok_X3_setBucket at hok
  unfold fn_X3_setBucket
  refine zs_aload_n (k := 0) C dX3_setBucket_0 rfl rfl ?_
  refine zs_aload_n (k := 1) C dX3_setBucket_1 rfl rfl ?_
  refine zk_callVv (As := [.ref (ad (68 + p1))]) (rest := []) C pk_X3_freeOwn (by decide) lkX3_256 (m_X3_freeOwn hJ d σ p1 hp1) zc_recvS rfl rfl rfl (Nat.le_of_ble_eq_true rfl) dX3_setBucket_2 ?_
  refine zs_aload_n (k := 1) C dX3_setBucket_5 rfl rfl ?_
  refine gC_Worker_stack C hp1 lkX3_86 dX3_setBucket_6 ?_
  obtain ⟨h_1, hok⟩ := hok
  refine zk_callVi (As := []) (rest := []) C pk_X1_top (by decide) lkX3_259 (m_X1_top hJ d ((fn_X3_freeOwn σ p1).1) p1 (zc_8a hp1) h_1) (zc_recvNum (zc_8a hp1)) rfl rfl rfl (Nat.le_of_ble_eq_true rfl) dX3_setBucket_9 ?_
  refine zs_istore_n (lv' := [(2, .int (fr_X1_top ((fn_X3_freeOwn σ p1).1) p1)), (0, .ref (ad 0)), (1, .ref (ad (68 + p1)))]) C dX3_setBucket_12 rfl (by decide) rfl ?_
  refine zs_iload_n (k := 0) C dX3_setBucket_13 rfl rfl ?_
  refine zk_callSi (As := [.int (fr_X1_top ((fn_X3_freeOwn σ p1).1) p1)]) (rest := []) C pk_X3_isBucket (by decide) lkX3_263 (m_X3_isBucket hJ (d + 1) ((fn_X3_freeOwn σ p1).1) (fr_X1_top ((fn_X3_freeOwn σ p1).1) p1)) rfl rfl (Nat.le_of_ble_eq_true rfl) dX3_setBucket_14 ?_
  refine zs_if_eq (tgt := 40) C dX3_setBucket_17 (by decide) (fun c_2 => ?_) (fun c_2 => ?_)
  · refine zs_aload_n (k := 2) C dX3_setBucket_40 rfl rfl ?_
    refine gC_Worker_stack C hp1 lkX3_86 dX3_setBucket_41 ?_
    refine zk_callVv (As := []) (rest := []) C pk_X1_dropTop (by decide) lkX3_266 (m_X1_dropTop hJ d ((fn_X3_freeOwn σ p1).1) p1 (zc_8a hp1)) (zc_recvNum (zc_8a hp1)) rfl rfl rfl (Nat.le_of_ble_eq_true rfl) dX3_setBucket_44 ?_
    refine zs_aload_n (k := 2) C dX3_setBucket_47 rfl rfl ?_
    refine zs_aload_n (k := 2) C dX3_setBucket_48 rfl rfl ?_
    refine gC_Worker_bucketNode C hp1 lkX3_226 dX3_setBucket_49 ?_
    refine pC_Worker_start C hp1 lkX3_191 dX3_setBucket_52 ?_
    refine zs_aload_n (k := 2) C dX3_setBucket_55 rfl rfl ?_
    refine zs_iconst (v := 3) C dX3_setBucket_56 (by decide) ?_
    refine pC_Worker_place C hp1 lkX3_50 dX3_setBucket_57 ?_
    exact zs_vret C hr dX3_setBucket_60
  · refine zs_aload_n (k := 1) C dX3_setBucket_20 rfl rfl ?_
    refine gC_S_bucketNodes C lkX3_21 dX3_setBucket_21 ?_
    refine zs_iload_n (k := 0) C dX3_setBucket_24 rfl rfl ?_
    refine aC_bk C (zc_inBk c_2) dX3_setBucket_25 ?_
    refine zs_iconst (v := (-1)) C dX3_setBucket_26 (by decide) ?_
    refine zs_icmp_ne (tgt := 40) C dX3_setBucket_27 (by decide) (fun c_3 => ?_) (fun c_3 => ?_)
    · refine zs_aload_n (k := 1) C dX3_setBucket_30 rfl rfl ?_
      refine gC_S_bucketNodes C lkX3_21 dX3_setBucket_31 ?_
      refine zs_iload_n (k := 0) C dX3_setBucket_34 rfl rfl ?_
      refine zs_aload_n (k := 2) C dX3_setBucket_35 rfl rfl ?_
      refine gC_Worker_bucketNode C hp1 lkX3_226 dX3_setBucket_36 ?_
      refine sC_bk C (zc_inBk c_2) dX3_setBucket_39 ?_
      refine zs_aload_n (k := 2) C dX3_setBucket_40 rfl rfl ?_
      refine gC_Worker_stack C hp1 lkX3_86 dX3_setBucket_41 ?_
      refine zk_callVv (As := []) (rest := []) C pk_X1_dropTop (by decide) lkX3_266 (m_X1_dropTop hJ d (zs_u (fn_X3_freeOwn σ p1).1 31 ((fr_X1_top ((fn_X3_freeOwn σ p1).1) p1).toNatClampNeg) (((fn_X3_freeOwn σ p1).1) 23 p1)) p1 (zc_8a hp1)) (zc_recvNum (zc_8a hp1)) rfl rfl rfl (Nat.le_of_ble_eq_true rfl) dX3_setBucket_44 ?_
      refine zs_aload_n (k := 2) C dX3_setBucket_47 rfl rfl ?_
      refine zs_aload_n (k := 2) C dX3_setBucket_48 rfl rfl ?_
      refine gC_Worker_bucketNode C hp1 lkX3_226 dX3_setBucket_49 ?_
      refine pC_Worker_start C hp1 lkX3_191 dX3_setBucket_52 ?_
      refine zs_aload_n (k := 2) C dX3_setBucket_55 rfl rfl ?_
      refine zs_iconst (v := 3) C dX3_setBucket_56 (by decide) ?_
      refine pC_Worker_place C hp1 lkX3_50 dX3_setBucket_57 ?_
      exact zs_vret C hr dX3_setBucket_60
    · refine zs_aload_n (k := 2) C dX3_setBucket_40 rfl rfl ?_
      refine gC_Worker_stack C hp1 lkX3_86 dX3_setBucket_41 ?_
      refine zk_callVv (As := []) (rest := []) C pk_X1_dropTop (by decide) lkX3_266 (m_X1_dropTop hJ d ((fn_X3_freeOwn σ p1).1) p1 (zc_8a hp1)) (zc_recvNum (zc_8a hp1)) rfl rfl rfl (Nat.le_of_ble_eq_true rfl) dX3_setBucket_44 ?_
      refine zs_aload_n (k := 2) C dX3_setBucket_47 rfl rfl ?_
      refine zs_aload_n (k := 2) C dX3_setBucket_48 rfl rfl ?_
      refine gC_Worker_bucketNode C hp1 lkX3_226 dX3_setBucket_49 ?_
      refine pC_Worker_start C hp1 lkX3_191 dX3_setBucket_52 ?_
      refine zs_aload_n (k := 2) C dX3_setBucket_55 rfl rfl ?_
      refine zs_iconst (v := 3) C dX3_setBucket_56 (by decide) ?_
      refine pC_Worker_place C hp1 lkX3_50 dX3_setBucket_57 ?_
      exact zs_vret C hr dX3_setBucket_60

def fn_X3_mark (σ : zs_T) (p1 : Nat) : zs_O := (if (fn_X3_change σ (σ 19 p1) (σ 20 p1) (σ 20 p1) 1).2 = 0 then ((zs_u (fn_X3_change σ (σ 19 p1) (σ 20 p1) (σ 20 p1) 1).1 10 p1 3), 0) else ((zs_u (zs_u (zs_u (fn_X3_change σ (σ 19 p1) (σ 20 p1) (σ 20 p1) 1).1 33 0 ((((fn_X3_change σ (σ 19 p1) (σ 20 p1) (σ 20 p1) 1).1) 33 0) - 1)) 25 p1 (fr_X3_valueOf (zs_u (fn_X3_change σ (σ 19 p1) (σ 20 p1) (σ 20 p1) 1).1 33 0 ((((fn_X3_change σ (σ 19 p1) (σ 20 p1) (σ 20 p1) 1).1) 33 0) - 1)) ((zs_u (fn_X3_change σ (σ 19 p1) (σ 20 p1) (σ 20 p1) 1).1 33 0 ((((fn_X3_change σ (σ 19 p1) (σ 20 p1) (σ 20 p1) 1).1) 33 0) - 1)) 19 p1))) 10 p1 11), 0))
def ok_X3_mark (σ : zs_T) (p1 : Nat) : Prop := ok_X3_change σ (σ 19 p1) (σ 20 p1) (σ 20 p1) 1 ∧ (True)
set_option maxHeartbeats 4000000 in
set_option maxRecDepth 100000 in
theorem m_X3_mark {l : Launch} {D : va_G} {cI cN cW : ClassId} {ad : Nat → Nat} (hJ : zs_J 88 ad) (d : Nat) (σ : zs_T) (p1 : Nat) (hp1 : p1 < 4) (hok : ok_X3_mark σ p1) : zs_M l D vwCl (tysC cI cN cW) 88 ad (wC cI cN cW ad) yX3_mark (Cond.code yX3_mark cX3_mark 2 none :: zw_G) (zw_rm (d + 3)) [.ref (ad 0), .ref (ad (68 + p1))] zs_vv σ (fn_X3_mark σ p1) := by
  refine zs_ofZ (cc := cX3_mark) (nL := 2) (ret := none) (lv0 := [(0, .ref (ad 0)), (1, .ref (ad (68 + p1)))]) (by decide) rfl hJ (Nat.le_of_ble_eq_true rfl) rfl ?_
  intro p e s m args below meth c C hr
  unfold ok_X3_mark at hok
  unfold fn_X3_mark
  refine zs_aload_n (k := 0) C dX3_mark_0 rfl rfl ?_
  refine zs_aload_n (k := 1) C dX3_mark_1 rfl rfl ?_
  refine gC_Worker_cur C hp1 lkX3_92 dX3_mark_2 ?_
  refine zs_aload_n (k := 1) C dX3_mark_5 rfl rfl ?_
  refine gC_Worker_nxt C hp1 lkX3_95 dX3_mark_6 ?_
  refine zs_aload_n (k := 1) C dX3_mark_9 rfl rfl ?_
  refine gC_Worker_nxt C hp1 lkX3_95 dX3_mark_10 ?_
  refine zs_iconst (v := 1) C dX3_mark_13 (by decide) ?_
  obtain ⟨h_1, hok⟩ := hok
  refine zk_callVi (As := [.int (σ 19 p1), .int (σ 20 p1), .int (σ 20 p1), .int 1]) (rest := []) C pk_X3_change (by decide) lkX3_242 (m_X3_change hJ d σ (σ 19 p1) (σ 20 p1) (σ 20 p1) 1 h_1) zc_recvS rfl rfl rfl (Nat.le_of_ble_eq_true rfl) dX3_mark_14 ?_
  refine zs_if_eq (tgt := 51) C dX3_mark_17 (by decide) (fun c_2 => ?_) (fun c_2 => ?_)
  · refine zs_aload_n (k := 1) C dX3_mark_51 rfl rfl ?_
    refine zs_iconst (v := 3) C dX3_mark_52 (by decide) ?_
    refine pC_Worker_place C hp1 lkX3_50 dX3_mark_53 ?_
    exact zs_vret C hr dX3_mark_56
  · refine zs_aload_n (k := 0) C dX3_mark_20 rfl rfl ?_
    refine zs_dup C dX3_mark_21 rfl ?_
    refine gC_S_count C lkX3_29 dX3_mark_22 ?_
    refine zs_iconst (v := 1) C dX3_mark_25 (by decide) ?_
    refine zs_isub C dX3_mark_26 ?_
    refine pC_S_count C lkX3_29 dX3_mark_27 ?_
    refine zs_aload_n (k := 1) C dX3_mark_30 rfl rfl ?_
    refine zs_aload_n (k := 0) C dX3_mark_31 rfl rfl ?_
    refine zs_aload_n (k := 1) C dX3_mark_32 rfl rfl ?_
    refine gC_Worker_cur C hp1 lkX3_92 dX3_mark_33 ?_
    refine zk_callVi (As := [.int ((zs_u (fn_X3_change σ (σ 19 p1) (σ 20 p1) (σ 20 p1) 1).1 33 0 ((((fn_X3_change σ (σ 19 p1) (σ 20 p1) (σ 20 p1) 1).1) 33 0) - 1)) 19 p1)]) (rest := [.ref (ad (68 + p1))]) C pk_X3_valueOf (by decide) lkX3_235 (m_X3_valueOf hJ (d + 1) (zs_u (fn_X3_change σ (σ 19 p1) (σ 20 p1) (σ 20 p1) 1).1 33 0 ((((fn_X3_change σ (σ 19 p1) (σ 20 p1) (σ 20 p1) 1).1) 33 0) - 1)) ((zs_u (fn_X3_change σ (σ 19 p1) (σ 20 p1) (σ 20 p1) 1).1 33 0 ((((fn_X3_change σ (σ 19 p1) (σ 20 p1) (σ 20 p1) 1).1) 33 0) - 1)) 19 p1)) zc_recvS rfl rfl rfl (Nat.le_of_ble_eq_true rfl) dX3_mark_36 ?_
    refine pC_Worker_answer C hp1 lkX3_269 dX3_mark_39 ?_
    refine zs_aload_n (k := 1) C dX3_mark_42 rfl rfl ?_
    refine zs_bipush (v := 11) C dX3_mark_43 (by decide) ?_
    refine pC_Worker_place C hp1 lkX3_50 dX3_mark_45 ?_
    refine zs_goto (tgt := 56) C dX3_mark_48 (by decide) ?_
    exact zs_vret C hr dX3_mark_56

def fn_X3_unlinkRemoved (σ : zs_T) (p1 : Nat) : zs_O := (if (fn_X3_change σ (σ 18 p1) (σ 19 p1) (σ 20 p1) 0).2 = 0 then ((zs_u (zs_u (fn_X3_change σ (σ 18 p1) (σ 19 p1) (σ 20 p1) 0).1 24 p1 1) 10 p1 3), 0) else ((zs_u (fn_X3_retire ((fn_X3_change σ (σ 18 p1) (σ 19 p1) (σ 20 p1) 0).1) p1 (((fn_X3_change σ (σ 18 p1) (σ 19 p1) (σ 20 p1) 0).1) 19 p1)).1 10 p1 12), 0))
def ok_X3_unlinkRemoved (σ : zs_T) (p1 : Nat) : Prop := ok_X3_change σ (σ 18 p1) (σ 19 p1) (σ 20 p1) 0 ∧ (((fn_X3_change σ (σ 18 p1) (σ 19 p1) (σ 20 p1) 0).2 = 0 → True) ∧ (¬ ((fn_X3_change σ (σ 18 p1) (σ 19 p1) (σ 20 p1) 0).2 = 0) → ok_X3_retire ((fn_X3_change σ (σ 18 p1) (σ 19 p1) (σ 20 p1) 0).1) p1 (((fn_X3_change σ (σ 18 p1) (σ 19 p1) (σ 20 p1) 0).1) 19 p1) ∧ (True)))
set_option maxHeartbeats 4000000 in
set_option maxRecDepth 100000 in
theorem m_X3_unlinkRemoved {l : Launch} {D : va_G} {cI cN cW : ClassId} {ad : Nat → Nat} (hJ : zs_J 88 ad) (d : Nat) (σ : zs_T) (p1 : Nat) (hp1 : p1 < 4) (hok : ok_X3_unlinkRemoved σ p1) : zs_M l D vwCl (tysC cI cN cW) 88 ad (wC cI cN cW ad) yX3_unlinkRemoved (Cond.code yX3_unlinkRemoved cX3_unlinkRemoved 2 none :: zw_G) (zw_rm (d + 3)) [.ref (ad 0), .ref (ad (68 + p1))] zs_vv σ (fn_X3_unlinkRemoved σ p1) := by
  refine zs_ofZ (cc := cX3_unlinkRemoved) (nL := 2) (ret := none) (lv0 := [(0, .ref (ad 0)), (1, .ref (ad (68 + p1)))]) (by decide) rfl hJ (Nat.le_of_ble_eq_true rfl) rfl ?_
  intro p e s m args below meth c C hr
  unfold ok_X3_unlinkRemoved at hok
  unfold fn_X3_unlinkRemoved
  refine zs_aload_n (k := 0) C dX3_unlinkRemoved_0 rfl rfl ?_
  refine zs_aload_n (k := 1) C dX3_unlinkRemoved_1 rfl rfl ?_
  refine gC_Worker_prev C hp1 lkX3_89 dX3_unlinkRemoved_2 ?_
  refine zs_aload_n (k := 1) C dX3_unlinkRemoved_5 rfl rfl ?_
  refine gC_Worker_cur C hp1 lkX3_92 dX3_unlinkRemoved_6 ?_
  refine zs_aload_n (k := 1) C dX3_unlinkRemoved_9 rfl rfl ?_
  refine gC_Worker_nxt C hp1 lkX3_95 dX3_unlinkRemoved_10 ?_
  refine zs_iconst (v := 0) C dX3_unlinkRemoved_13 (by decide) ?_
  obtain ⟨h_1, hok⟩ := hok
  refine zk_callVi (As := [.int (σ 18 p1), .int (σ 19 p1), .int (σ 20 p1), .int 0]) (rest := []) C pk_X3_change (by decide) lkX3_242 (m_X3_change hJ d σ (σ 18 p1) (σ 19 p1) (σ 20 p1) 0 h_1) zc_recvS rfl rfl rfl (Nat.le_of_ble_eq_true rfl) dX3_unlinkRemoved_14 ?_
  refine zs_if_eq (tgt := 38) C dX3_unlinkRemoved_17 (by decide) (fun c_2 => ?_) (fun c_2 => ?_)
  · have hok := hok.1 c_2
    refine zs_aload_n (k := 1) C dX3_unlinkRemoved_38 rfl rfl ?_
    refine zs_iconst (v := 1) C dX3_unlinkRemoved_39 (by decide) ?_
    refine pC_Worker_cleans C hp1 lkX3_229 (Or.inr rfl) dX3_unlinkRemoved_40 ?_
    refine zs_aload_n (k := 1) C dX3_unlinkRemoved_43 rfl rfl ?_
    refine zs_iconst (v := 3) C dX3_unlinkRemoved_44 (by decide) ?_
    refine pC_Worker_place C hp1 lkX3_50 dX3_unlinkRemoved_45 ?_
    exact zs_vret C hr dX3_unlinkRemoved_48
  · have hok := hok.2 c_2
    refine zs_aload_n (k := 0) C dX3_unlinkRemoved_20 rfl rfl ?_
    refine zs_aload_n (k := 1) C dX3_unlinkRemoved_21 rfl rfl ?_
    refine zs_aload_n (k := 1) C dX3_unlinkRemoved_22 rfl rfl ?_
    refine gC_Worker_cur C hp1 lkX3_92 dX3_unlinkRemoved_23 ?_
    obtain ⟨h_3, hok⟩ := hok
    refine zk_callVv (As := [.ref (ad (68 + p1)), .int (((fn_X3_change σ (σ 18 p1) (σ 19 p1) (σ 20 p1) 0).1) 19 p1)]) (rest := []) C pk_X3_retire (by decide) lkX3_246 (m_X3_retire hJ (d + 1) ((fn_X3_change σ (σ 18 p1) (σ 19 p1) (σ 20 p1) 0).1) p1 (((fn_X3_change σ (σ 18 p1) (σ 19 p1) (σ 20 p1) 0).1) 19 p1) hp1 h_3) zc_recvS rfl rfl rfl (Nat.le_of_ble_eq_true rfl) dX3_unlinkRemoved_26 ?_
    refine zs_aload_n (k := 1) C dX3_unlinkRemoved_29 rfl rfl ?_
    refine zs_bipush (v := 12) C dX3_unlinkRemoved_30 (by decide) ?_
    refine pC_Worker_place C hp1 lkX3_50 dX3_unlinkRemoved_32 ?_
    refine zs_goto (tgt := 48) C dX3_unlinkRemoved_35 (by decide) ?_
    exact zs_vret C hr dX3_unlinkRemoved_48

def fn_X3_giveBack_L4 : Nat → zs_T → Nat → Int32 → Int32 → zs_O
  | 0, σ, _, _, _ => (σ, 0)
  | n + 1, σ, p1, x2, x3 => (if x3 < σ 30 (4 + p1) then (if fr_X3_isNode σ (fr_X1_at σ (4 + p1) x3) = 0 then (fn_X3_giveBack_L4 n σ p1 x2 (x3 + 1)) else (if fr_X3_canBeReached σ ((fr_X1_at σ (4 + p1) x3).toNatClampNeg) = 0 then (fn_X3_giveBack_L4 n (zs_u σ 0 ((fr_X1_at σ (4 + p1) x3).toNatClampNeg) 0) p1 x2 (x3 + 1)) else (fn_X3_giveBack_L4 n ((fn_X1_put σ (4 + p1) x2 (fr_X1_at σ (4 + p1) x3)).1) p1 (x2 + 1) (x3 + 1)))) else ((fn_X3_end ((fn_X1_cutTo σ (4 + p1) x2).1) p1 (((fn_X1_cutTo σ (4 + p1) x2).1) 25 p1)).1, 0))
def ok_X3_giveBack_L4 : Nat → zs_T → Nat → Int32 → Int32 → Prop
  | 0, _, _, _, _ => False
  | n + 1, σ, p1, x2, x3 => (x3 < σ 30 (4 + p1) → ok_X1_at σ (4 + p1) x3 ∧ ((fr_X3_isNode σ (fr_X1_at σ (4 + p1) x3) = 0 → (ok_X3_giveBack_L4 n σ p1 x2 (x3 + 1))) ∧ (¬ (fr_X3_isNode σ (fr_X1_at σ (4 + p1) x3) = 0) → ok_X3_canBeReached σ ((fr_X1_at σ (4 + p1) x3).toNatClampNeg) ∧ ((fr_X3_canBeReached σ ((fr_X1_at σ (4 + p1) x3).toNatClampNeg) = 0 → (ok_X3_giveBack_L4 n (zs_u σ 0 ((fr_X1_at σ (4 + p1) x3).toNatClampNeg) 0) p1 x2 (x3 + 1))) ∧ (¬ (fr_X3_canBeReached σ ((fr_X1_at σ (4 + p1) x3).toNatClampNeg) = 0) → ok_X1_put σ (4 + p1) x2 (fr_X1_at σ (4 + p1) x3) ∧ ((ok_X3_giveBack_L4 n ((fn_X1_put σ (4 + p1) x2 (fr_X1_at σ (4 + p1) x3)).1) p1 (x2 + 1) (x3 + 1)))))))) ∧ (¬ (x3 < σ 30 (4 + p1)) → True)
set_option maxHeartbeats 4000000 in
set_option maxRecDepth 100000 in
theorem lp_X3_giveBack_L4 {p : Program} {l : Launch} {e : Env} {s : State} {m : MethodId} {args : Array Value} {below : List Frame} {meth : Method} {c : Code} {D : va_G} {cI cN cW : ClassId} {ad : Nat → Nat} (C : zs_C p s m args meth c cX3_giveBack 5 (Cond.code yX3_giveBack cX3_giveBack 5 none :: zw_G) yX3_giveBack.cls D vwCl (tysC cI cN cW) 88 ad) (hr : meth.sig.returnType = none) (d : Nat) : ∀ (n : Nat) (σ : zs_T) (p1 : Nat) (x2 : Int32) (x3 : Int32) (hp1 : p1 < 4), ok_X3_giveBack_L4 n σ p1 x2 x3 → zs_Z p l e (zw_rm (d + 3)) s m args below meth c D vwCl 88 ad (wC cI cN cW ad) 5 zs_vv (fn_X3_giveBack_L4 n σ p1 x2 x3) σ 4 [(0, .ref (ad 0)), (1, .ref (ad (68 + p1))), (2, .int x2), (3, .int x3)] [] := by
  have hJ := C.2.2.1
  intro n
  induction n with
  | zero => intro σ p1 x2 x3 hp1 hok; exact hok.elim
  | succ n ih =>
    intro σ p1 x2 x3 hp1 hok
    rw [ok_X3_giveBack_L4] at hok
    rw [fn_X3_giveBack_L4]
    refine zs_iload_n (k := 3) C dX3_giveBack_4 rfl rfl ?_
    refine zs_aload_n (k := 1) C dX3_giveBack_5 rfl rfl ?_
    refine gC_Worker_row C hp1 lkX3_77 dX3_giveBack_6 ?_
    refine gC_Num_length C (zc_8b hp1) lkX3_81 dX3_giveBack_9 ?_
    refine zs_icmp_ge (tgt := 83) C dX3_giveBack_12 (by decide) (fun c_1 => ?_) (fun c_1 => ?_)
    · have hok := hok.1 c_1
      refine zs_aload_n (k := 1) C dX3_giveBack_15 rfl rfl ?_
      refine gC_Worker_row C hp1 lkX3_77 dX3_giveBack_16 ?_
      refine zs_iload_n (k := 3) C dX3_giveBack_19 rfl rfl ?_
      obtain ⟨h_2, hok⟩ := hok
      refine zk_callVi (As := [.int x3]) (rest := []) C pk_X1_at (by decide) lkX3_272 (m_X1_at hJ (d + 2) σ (4 + p1) x3 (zc_8b hp1) h_2) (zc_recvNum (zc_8b hp1)) rfl rfl rfl (Nat.le_of_ble_eq_true rfl) dX3_giveBack_20 ?_
      refine zs_istore (lv' := [(4, .int (fr_X1_at σ (4 + p1) x3)), (0, .ref (ad 0)), (1, .ref (ad (68 + p1))), (2, .int x2), (3, .int x3)]) C dX3_giveBack_23 (by decide) rfl ?_
      refine zs_iload (k := 0) C dX3_giveBack_25 rfl ?_
      refine zk_callSi (As := [.int (fr_X1_at σ (4 + p1) x3)]) (rest := []) C pk_X3_isNode (by decide) lkX3_103 (m_X3_isNode hJ (d + 2) σ (fr_X1_at σ (4 + p1) x3)) rfl rfl (Nat.le_of_ble_eq_true rfl) dX3_giveBack_27 ?_
      refine zs_if_ne (tgt := 36) C dX3_giveBack_30 (by decide) (fun c_3 => ?_) (fun c_3 => ?_)
      · have hok := hok.1 c_3
        refine zs_goto (tgt := 77) C dX3_giveBack_33 (by decide) ?_
        refine zs_iinc (k := 4) (v := x3 + 1) (lv' := [(3, .int (x3 + 1)), (4, .int (fr_X1_at σ (4 + p1) x3)), (0, .ref (ad 0)), (1, .ref (ad (68 + p1))), (2, .int x2)]) C dX3_giveBack_77 rfl rfl (by decide) rfl ?_
        refine zs_goto (tgt := 4) C dX3_giveBack_80 (by decide) ?_
        exact zs_sub [2, 3, 4, 0] rfl (ih σ p1 x2 (x3 + 1) hp1 hok)
      · have hok := hok.2 c_3
        refine zs_aload_n (k := 1) C dX3_giveBack_36 rfl rfl ?_
        refine zs_aload_n (k := 1) C dX3_giveBack_37 rfl rfl ?_
        refine gC_S_nodes C lkX3_11 dX3_giveBack_38 ?_
        refine zs_iload (k := 0) C dX3_giveBack_41 rfl ?_
        refine aC_nodes C (zc_inNode c_3) dX3_giveBack_43 ?_
        obtain ⟨h_4, hok⟩ := hok
        refine zk_callVi (As := [.ref (ad (4 + ((fr_X1_at σ (4 + p1) x3).toNatClampNeg)))]) (rest := []) C pk_X3_canBeReached (by decide) lkX3_275 (m_X3_canBeReached hJ (d + 2) σ ((fr_X1_at σ (4 + p1) x3).toNatClampNeg) (zs_lt (zc_inNode c_3)) h_4) zc_recvS rfl rfl rfl (Nat.le_of_ble_eq_true rfl) dX3_giveBack_44 ?_
        refine zs_if_eq (tgt := 66) C dX3_giveBack_47 (by decide) (fun c_5 => ?_) (fun c_5 => ?_)
        · have hok := hok.1 c_5
          refine zs_aload_n (k := 1) C dX3_giveBack_66 rfl rfl ?_
          refine gC_S_nodes C lkX3_11 dX3_giveBack_67 ?_
          refine zs_iload (k := 0) C dX3_giveBack_70 rfl ?_
          refine aC_nodes C (zc_inNode c_3) dX3_giveBack_72 ?_
          refine zs_iconst (v := 0) C dX3_giveBack_73 (by decide) ?_
          refine pC_Node_state C (zs_lt (zc_inNode c_3)) lkX3_108 dX3_giveBack_74 ?_
          refine zs_iinc (k := 4) (v := x3 + 1) (lv' := [(3, .int (x3 + 1)), (4, .int (fr_X1_at σ (4 + p1) x3)), (0, .ref (ad 0)), (1, .ref (ad (68 + p1))), (2, .int x2)]) C dX3_giveBack_77 rfl rfl (by decide) rfl ?_
          refine zs_goto (tgt := 4) C dX3_giveBack_80 (by decide) ?_
          exact zs_sub [2, 3, 4, 0] rfl (ih (zs_u σ 0 ((fr_X1_at σ (4 + p1) x3).toNatClampNeg) 0) p1 x2 (x3 + 1) hp1 hok)
        · have hok := hok.2 c_5
          refine zs_aload_n (k := 2) C dX3_giveBack_50 rfl rfl ?_
          refine gC_Worker_row C hp1 lkX3_77 dX3_giveBack_51 ?_
          refine zs_iload_n (k := 3) C dX3_giveBack_54 rfl rfl ?_
          refine zs_iload (k := 0) C dX3_giveBack_55 rfl ?_
          obtain ⟨h_6, hok⟩ := hok
          refine zk_callVv (As := [.int x2, .int (fr_X1_at σ (4 + p1) x3)]) (rest := []) C pk_X1_put (by decide) lkX3_279 (m_X1_put hJ (d + 2) σ (4 + p1) x2 (fr_X1_at σ (4 + p1) x3) (zc_8b hp1) h_6) (zc_recvNum (zc_8b hp1)) rfl rfl rfl (Nat.le_of_ble_eq_true rfl) dX3_giveBack_57 ?_
          refine zs_iinc (k := 3) (v := x2 + 1) (lv' := [(2, .int (x2 + 1)), (4, .int (fr_X1_at σ (4 + p1) x3)), (0, .ref (ad 0)), (1, .ref (ad (68 + p1))), (3, .int x3)]) C dX3_giveBack_60 rfl rfl (by decide) rfl ?_
          refine zs_goto (tgt := 77) C dX3_giveBack_63 (by decide) ?_
          refine zs_iinc (k := 4) (v := x3 + 1) (lv' := [(3, .int (x3 + 1)), (2, .int (x2 + 1)), (4, .int (fr_X1_at σ (4 + p1) x3)), (0, .ref (ad 0)), (1, .ref (ad (68 + p1)))]) C dX3_giveBack_77 rfl rfl (by decide) rfl ?_
          refine zs_goto (tgt := 4) C dX3_giveBack_80 (by decide) ?_
          exact zs_sub [3, 4, 1, 0] rfl (ih ((fn_X1_put σ (4 + p1) x2 (fr_X1_at σ (4 + p1) x3)).1) p1 (x2 + 1) (x3 + 1) hp1 hok)
    · have hok := hok.2 c_1
      refine zs_aload_n (k := 1) C dX3_giveBack_83 rfl rfl ?_
      refine gC_Worker_row C hp1 lkX3_77 dX3_giveBack_84 ?_
      refine zs_iload_n (k := 2) C dX3_giveBack_87 rfl rfl ?_
      refine zk_callVv (As := [.int x2]) (rest := []) C pk_X1_cutTo (by decide) lkX3_187 (m_X1_cutTo hJ (d + 2) σ (4 + p1) x2 (zc_8b hp1)) (zc_recvNum (zc_8b hp1)) rfl rfl rfl (Nat.le_of_ble_eq_true rfl) dX3_giveBack_88 ?_
      refine zs_aload_n (k := 0) C dX3_giveBack_91 rfl rfl ?_
      refine zs_aload_n (k := 1) C dX3_giveBack_92 rfl rfl ?_
      refine zs_aload_n (k := 1) C dX3_giveBack_93 rfl rfl ?_
      refine gC_Worker_answer C hp1 lkX3_269 dX3_giveBack_94 ?_
      refine zk_callVv (As := [.ref (ad (68 + p1)), .int (((fn_X1_cutTo σ (4 + p1) x2).1) 25 p1)]) (rest := []) C pk_X3_end (by decide) lkX3_238 (m_X3_end hJ d ((fn_X1_cutTo σ (4 + p1) x2).1) p1 (((fn_X1_cutTo σ (4 + p1) x2).1) 25 p1) hp1) zc_recvS rfl rfl rfl (Nat.le_of_ble_eq_true rfl) dX3_giveBack_97 ?_
      exact zs_vret C hr dX3_giveBack_100
def fn_X3_giveBack (σ : zs_T) (p1 : Nat) : zs_O := (fn_X3_giveBack_L4 65 σ p1 0 0)
def ok_X3_giveBack (σ : zs_T) (p1 : Nat) : Prop := (ok_X3_giveBack_L4 65 σ p1 0 0)
set_option maxHeartbeats 4000000 in
set_option maxRecDepth 100000 in
theorem m_X3_giveBack {l : Launch} {D : va_G} {cI cN cW : ClassId} {ad : Nat → Nat} (hJ : zs_J 88 ad) (d : Nat) (σ : zs_T) (p1 : Nat) (hp1 : p1 < 4) (hok : ok_X3_giveBack σ p1) : zs_M l D vwCl (tysC cI cN cW) 88 ad (wC cI cN cW ad) yX3_giveBack (Cond.code yX3_giveBack cX3_giveBack 5 none :: zw_G) (zw_rm (d + 3)) [.ref (ad 0), .ref (ad (68 + p1))] zs_vv σ (fn_X3_giveBack σ p1) := by
  refine zs_ofZ (cc := cX3_giveBack) (nL := 5) (ret := none) (lv0 := [(0, .ref (ad 0)), (1, .ref (ad (68 + p1)))]) (by decide) rfl hJ (Nat.le_of_ble_eq_true rfl) rfl ?_
  intro p e s m args below meth c C hr
  unfold ok_X3_giveBack at hok
  unfold fn_X3_giveBack
  refine zs_iconst (v := 0) C dX3_giveBack_0 (by decide) ?_
  refine zs_istore_n (lv' := [(2, .int 0), (0, .ref (ad 0)), (1, .ref (ad (68 + p1)))]) C dX3_giveBack_1 rfl (by decide) rfl ?_
  refine zs_iconst (v := 0) C dX3_giveBack_2 (by decide) ?_
  refine zs_istore_n (lv' := [(3, .int 0), (2, .int 0), (0, .ref (ad 0)), (1, .ref (ad (68 + p1)))]) C dX3_giveBack_3 rfl (by decide) rfl ?_
  exact zs_sub [2, 3, 1, 0] rfl (lp_X3_giveBack_L4 C hr d 65 σ p1 0 0 hp1 hok)

def fn_X3_grow (σ : zs_T) (p1 : Nat) : zs_O := (if 2 * (σ 32 0) < σ 33 0 then (if σ 32 0 < 16 then ((fn_X3_end (zs_u σ 32 0 (2 * (σ 32 0))) p1 1).1, 0) else ((fn_X3_end σ p1 1).1, 0)) else ((fn_X3_end σ p1 1).1, 0))
set_option maxHeartbeats 4000000 in
set_option maxRecDepth 100000 in
theorem m_X3_grow {l : Launch} {D : va_G} {cI cN cW : ClassId} {ad : Nat → Nat} (hJ : zs_J 88 ad) (d : Nat) (σ : zs_T) (p1 : Nat) (hp1 : p1 < 4) : zs_M l D vwCl (tysC cI cN cW) 88 ad (wC cI cN cW ad) yX3_grow (Cond.code yX3_grow cX3_grow 2 none :: zw_G) (zw_rm (d + 3)) [.ref (ad 0), .ref (ad (68 + p1))] zs_vv σ (fn_X3_grow σ p1) := by
  refine zs_ofZ (cc := cX3_grow) (nL := 2) (ret := none) (lv0 := [(0, .ref (ad 0)), (1, .ref (ad (68 + p1)))]) (by decide) rfl hJ (Nat.le_of_ble_eq_true rfl) rfl ?_
  intro p e s m args below meth c C hr
  unfold fn_X3_grow
  refine zs_aload_n (k := 0) C dX3_grow_0 rfl rfl ?_
  refine gC_S_count C lkX3_29 dX3_grow_1 ?_
  refine zs_iconst (v := 2) C dX3_grow_4 (by decide) ?_
  refine zs_aload_n (k := 0) C dX3_grow_5 rfl rfl ?_
  refine gC_S_size C lkX3_25 dX3_grow_6 ?_
  refine zs_imul C dX3_grow_9 ?_
  refine zs_icmp_le (tgt := 32) C dX3_grow_10 (by decide) (fun c_1 => ?_) (fun c_1 => ?_)
  · refine zs_aload_n (k := 0) C dX3_grow_13 rfl rfl ?_
    refine gC_S_size C lkX3_25 dX3_grow_14 ?_
    refine zs_bipush (v := 16) C dX3_grow_17 (by decide) ?_
    refine zs_icmp_ge (tgt := 32) C dX3_grow_19 (by decide) (fun c_2 => ?_) (fun c_2 => ?_)
    · refine zs_aload_n (k := 0) C dX3_grow_22 rfl rfl ?_
      refine zs_iconst (v := 2) C dX3_grow_23 (by decide) ?_
      refine zs_aload_n (k := 0) C dX3_grow_24 rfl rfl ?_
      refine gC_S_size C lkX3_25 dX3_grow_25 ?_
      refine zs_imul C dX3_grow_28 ?_
      refine pC_S_size C lkX3_25 dX3_grow_29 ?_
      refine zs_aload_n (k := 0) C dX3_grow_32 rfl rfl ?_
      refine zs_aload_n (k := 1) C dX3_grow_33 rfl rfl ?_
      refine zs_iconst (v := 1) C dX3_grow_34 (by decide) ?_
      refine zk_callVv (As := [.ref (ad (68 + p1)), .int 1]) (rest := []) C pk_X3_end (by decide) lkX3_238 (m_X3_end hJ d (zs_u σ 32 0 (2 * (σ 32 0))) p1 1 hp1) zc_recvS rfl rfl rfl (Nat.le_of_ble_eq_true rfl) dX3_grow_35 ?_
      exact zs_vret C hr dX3_grow_38
    · refine zs_aload_n (k := 0) C dX3_grow_32 rfl rfl ?_
      refine zs_aload_n (k := 1) C dX3_grow_33 rfl rfl ?_
      refine zs_iconst (v := 1) C dX3_grow_34 (by decide) ?_
      refine zk_callVv (As := [.ref (ad (68 + p1)), .int 1]) (rest := []) C pk_X3_end (by decide) lkX3_238 (m_X3_end hJ d σ p1 1 hp1) zc_recvS rfl rfl rfl (Nat.le_of_ble_eq_true rfl) dX3_grow_35 ?_
      exact zs_vret C hr dX3_grow_38
  · refine zs_aload_n (k := 0) C dX3_grow_32 rfl rfl ?_
    refine zs_aload_n (k := 1) C dX3_grow_33 rfl rfl ?_
    refine zs_iconst (v := 1) C dX3_grow_34 (by decide) ?_
    refine zk_callVv (As := [.ref (ad (68 + p1)), .int 1]) (rest := []) C pk_X3_end (by decide) lkX3_238 (m_X3_end hJ d σ p1 1 hp1) zc_recvS rfl rfl rfl (Nat.le_of_ble_eq_true rfl) dX3_grow_35 ?_
    exact zs_vret C hr dX3_grow_38
