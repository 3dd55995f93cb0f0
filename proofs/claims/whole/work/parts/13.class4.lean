def fn_X3_advance (σ : zs_T) (p1 : Nat) : zs_O := (if σ 10 p1 = 1 then ((fn_X3_enter σ p1).1, 0) else (if σ 10 p1 = 2 then ((fn_X3_seekBucket σ p1).1, 0) else (if σ 10 p1 = 3 then ((fn_X3_loadStart σ p1).1, 0) else (if σ 10 p1 = 4 then ((fn_X3_loadCur σ p1).1, 0) else (if σ 10 p1 = 5 then ((fn_X3_compare σ p1).1, 0) else (if σ 10 p1 = 6 then ((fn_X3_unlinkMarked σ p1).1, 0) else (if σ 10 p1 = 7 then ((fn_X3_prepare σ p1).1, 0) else (if σ 10 p1 = 8 then ((fn_X3_link σ p1).1, 0) else (if σ 10 p1 = 9 then ((fn_X3_setBucket σ p1).1, 0) else (if σ 10 p1 = 10 then ((fn_X3_mark σ p1).1, 0) else (if σ 10 p1 = 11 then ((fn_X3_unlinkRemoved σ p1).1, 0) else (if σ 10 p1 = 12 then ((fn_X3_giveBack σ p1).1, 0) else (if σ 10 p1 = 13 then ((fn_X3_grow σ p1).1, 0) else (σ, 0))))))))))))))
def ok_X3_advance (σ : zs_T) (p1 : Nat) : Prop := (σ 10 p1 = 1 → True) ∧ (¬ (σ 10 p1 = 1) → (σ 10 p1 = 2 → ok_X3_seekBucket σ p1 ∧ (True)) ∧ (¬ (σ 10 p1 = 2) → (σ 10 p1 = 3 → True) ∧ (¬ (σ 10 p1 = 3) → (σ 10 p1 = 4 → ok_X3_loadCur σ p1 ∧ (True)) ∧ (¬ (σ 10 p1 = 4) → (σ 10 p1 = 5 → ok_X3_compare σ p1 ∧ (True)) ∧ (¬ (σ 10 p1 = 5) → (σ 10 p1 = 6 → ok_X3_unlinkMarked σ p1 ∧ (True)) ∧ (¬ (σ 10 p1 = 6) → (σ 10 p1 = 7 → ok_X3_prepare σ p1 ∧ (True)) ∧ (¬ (σ 10 p1 = 7) → (σ 10 p1 = 8 → ok_X3_link σ p1 ∧ (True)) ∧ (¬ (σ 10 p1 = 8) → (σ 10 p1 = 9 → ok_X3_setBucket σ p1 ∧ (True)) ∧ (¬ (σ 10 p1 = 9) → (σ 10 p1 = 10 → ok_X3_mark σ p1 ∧ (True)) ∧ (¬ (σ 10 p1 = 10) → (σ 10 p1 = 11 → ok_X3_unlinkRemoved σ p1 ∧ (True)) ∧ (¬ (σ 10 p1 = 11) → (σ 10 p1 = 12 → ok_X3_giveBack σ p1 ∧ (True)) ∧ (¬ (σ 10 p1 = 12) → (σ 10 p1 = 13 → True) ∧ (¬ (σ 10 p1 = 13) → True)))))))))))))
set_option maxHeartbeats 4000000 in
set_option maxRecDepth 100000 in
theorem m_X3_advance {l : Launch} {D : va_G} {cI cN cW : ClassId} {ad : Nat → Nat} (hJ : zs_J 88 ad) (d : Nat) (σ : zs_T) (p1 : Nat) (hp1 : p1 < 4) (hok : ok_X3_advance σ p1) : zs_M l D vwCl (tysC cI cN cW) 88 ad (wC cI cN cW ad) yX3_advance (Cond.code yX3_advance cX3_advance 2 none :: zw_G) (zw_rm (d + 5)) [.ref (ad 0), .ref (ad (68 + p1))] zs_vv σ (fn_X3_advance σ p1) := by
  refine zs_ofZ (cc := cX3_advance) (nL := 2) (ret := none) (lv0 := [(0, .ref (ad 0)), (1, .ref (ad (68 + p1)))]) (by decide) rfl hJ (Nat.le_of_ble_eq_true rfl) rfl ?_
  intro p e s m args below meth c C hr
  unfold ok_X3_advance at hok
  unfold fn_X3_advance
  refine zs_aload_n (k := 1) C dX3_advance_0 rfl rfl ?_
  refine gC_Worker_place C hp1 lkX3_50 dX3_advance_1 ?_
  refine zs_if (fun c_1 => ?_) (fun c_1 => ?_)
  · have hok := hok.1 c_1
    refine zs_tabIn (kx := 1) (tgt := 72) C dX3_advance_4 c_1 (by decide) (by decide) rfl (by decide) ?_
    refine zs_aload_n (k := 0) C dX3_advance_72 rfl rfl ?_
    refine zs_aload_n (k := 1) C dX3_advance_73 rfl rfl ?_
    refine zk_callVv (As := [.ref (ad (68 + p1))]) (rest := []) C pk_X3_enter (by decide) lkX3_141 (m_X3_enter hJ (d + 3) σ p1 hp1) zc_recvS rfl rfl rfl (Nat.le_of_ble_eq_true rfl) dX3_advance_74 ?_
    refine zs_goto (tgt := 176) C dX3_advance_77 (by decide) ?_
    exact zs_vret C hr dX3_advance_176
  have hok := hok.2 c_1
  refine zs_if (fun c_2 => ?_) (fun c_2 => ?_)
  · have hok := hok.1 c_2
    refine zs_tabIn (kx := 2) (tgt := 80) C dX3_advance_4 c_2 (by decide) (by decide) rfl (by decide) ?_
    refine zs_aload_n (k := 0) C dX3_advance_80 rfl rfl ?_
    refine zs_aload_n (k := 1) C dX3_advance_81 rfl rfl ?_
    obtain ⟨h_3, hok⟩ := hok
    refine zk_callVv (As := [.ref (ad (68 + p1))]) (rest := []) C pk_X3_seekBucket (by decide) lkX3_144 (m_X3_seekBucket hJ (d + 2) σ p1 hp1 h_3) zc_recvS rfl rfl rfl (Nat.le_of_ble_eq_true rfl) dX3_advance_82 ?_
    refine zs_goto (tgt := 176) C dX3_advance_85 (by decide) ?_
    exact zs_vret C hr dX3_advance_176
  have hok := hok.2 c_2
  refine zs_if (fun c_4 => ?_) (fun c_4 => ?_)
  · have hok := hok.1 c_4
    refine zs_tabIn (kx := 3) (tgt := 88) C dX3_advance_4 c_4 (by decide) (by decide) rfl (by decide) ?_
    refine zs_aload_n (k := 0) C dX3_advance_88 rfl rfl ?_
    refine zs_aload_n (k := 1) C dX3_advance_89 rfl rfl ?_
    refine zk_callVv (As := [.ref (ad (68 + p1))]) (rest := []) C pk_X3_loadStart (by decide) lkX3_147 (m_X3_loadStart hJ (d + 2) σ p1 hp1) zc_recvS rfl rfl rfl (Nat.le_of_ble_eq_true rfl) dX3_advance_90 ?_
    refine zs_goto (tgt := 176) C dX3_advance_93 (by decide) ?_
    exact zs_vret C hr dX3_advance_176
  have hok := hok.2 c_4
  refine zs_if (fun c_5 => ?_) (fun c_5 => ?_)
  · have hok := hok.1 c_5
    refine zs_tabIn (kx := 4) (tgt := 96) C dX3_advance_4 c_5 (by decide) (by decide) rfl (by decide) ?_
    refine zs_aload_n (k := 0) C dX3_advance_96 rfl rfl ?_
    refine zs_aload_n (k := 1) C dX3_advance_97 rfl rfl ?_
    obtain ⟨h_6, hok⟩ := hok
    refine zk_callVv (As := [.ref (ad (68 + p1))]) (rest := []) C pk_X3_loadCur (by decide) lkX3_150 (m_X3_loadCur hJ d σ p1 hp1 h_6) zc_recvS rfl rfl rfl (Nat.le_of_ble_eq_true rfl) dX3_advance_98 ?_
    refine zs_goto (tgt := 176) C dX3_advance_101 (by decide) ?_
    exact zs_vret C hr dX3_advance_176
  have hok := hok.2 c_5
  refine zs_if (fun c_7 => ?_) (fun c_7 => ?_)
  · have hok := hok.1 c_7
    refine zs_tabIn (kx := 5) (tgt := 104) C dX3_advance_4 c_7 (by decide) (by decide) rfl (by decide) ?_
    refine zs_aload_n (k := 0) C dX3_advance_104 rfl rfl ?_
    refine zs_aload_n (k := 1) C dX3_advance_105 rfl rfl ?_
    obtain ⟨h_8, hok⟩ := hok
    refine zk_callVv (As := [.ref (ad (68 + p1))]) (rest := []) C pk_X3_compare (by decide) lkX3_153 (m_X3_compare hJ d σ p1 hp1 h_8) zc_recvS rfl rfl rfl (Nat.le_of_ble_eq_true rfl) dX3_advance_106 ?_
    refine zs_goto (tgt := 176) C dX3_advance_109 (by decide) ?_
    exact zs_vret C hr dX3_advance_176
  have hok := hok.2 c_7
  refine zs_if (fun c_9 => ?_) (fun c_9 => ?_)
  · have hok := hok.1 c_9
    refine zs_tabIn (kx := 6) (tgt := 112) C dX3_advance_4 c_9 (by decide) (by decide) rfl (by decide) ?_
    refine zs_aload_n (k := 0) C dX3_advance_112 rfl rfl ?_
    refine zs_aload_n (k := 1) C dX3_advance_113 rfl rfl ?_
    obtain ⟨h_10, hok⟩ := hok
    refine zk_callVv (As := [.ref (ad (68 + p1))]) (rest := []) C pk_X3_unlinkMarked (by decide) lkX3_156 (m_X3_unlinkMarked hJ (d + 1) σ p1 hp1 h_10) zc_recvS rfl rfl rfl (Nat.le_of_ble_eq_true rfl) dX3_advance_114 ?_
    refine zs_goto (tgt := 176) C dX3_advance_117 (by decide) ?_
    exact zs_vret C hr dX3_advance_176
  have hok := hok.2 c_9
  refine zs_if (fun c_11 => ?_) (fun c_11 => ?_)
  · have hok := hok.1 c_11
    refine zs_tabIn (kx := 7) (tgt := 120) C dX3_advance_4 c_11 (by decide) (by decide) rfl (by decide) ?_
    refine zs_aload_n (k := 0) C dX3_advance_120 rfl rfl ?_
    refine zs_aload_n (k := 1) C dX3_advance_121 rfl rfl ?_
    obtain ⟨h_12, hok⟩ := hok
    refine zk_callVv (As := [.ref (ad (68 + p1))]) (rest := []) C pk_X3_prepare (by decide) lkX3_159 (m_X3_prepare hJ d σ p1 hp1 h_12) zc_recvS rfl rfl rfl (Nat.le_of_ble_eq_true rfl) dX3_advance_122 ?_
    refine zs_goto (tgt := 176) C dX3_advance_125 (by decide) ?_
    exact zs_vret C hr dX3_advance_176
  have hok := hok.2 c_11
  refine zs_if (fun c_13 => ?_) (fun c_13 => ?_)
  · have hok := hok.1 c_13
    refine zs_tabIn (kx := 8) (tgt := 128) C dX3_advance_4 c_13 (by decide) (by decide) rfl (by decide) ?_
    refine zs_aload_n (k := 0) C dX3_advance_128 rfl rfl ?_
    refine zs_aload_n (k := 1) C dX3_advance_129 rfl rfl ?_
    obtain ⟨h_14, hok⟩ := hok
    refine zk_callVv (As := [.ref (ad (68 + p1))]) (rest := []) C pk_X3_link (by decide) lkX3_162 (m_X3_link hJ (d + 1) σ p1 hp1 h_14) zc_recvS rfl rfl rfl (Nat.le_of_ble_eq_true rfl) dX3_advance_130 ?_
    refine zs_goto (tgt := 176) C dX3_advance_133 (by decide) ?_
    exact zs_vret C hr dX3_advance_176
  have hok := hok.2 c_13
  refine zs_if (fun c_15 => ?_) (fun c_15 => ?_)
  · have hok := hok.1 c_15
    refine zs_tabIn (kx := 9) (tgt := 136) C dX3_advance_4 c_15 (by decide) (by decide) rfl (by decide) ?_
    refine zs_aload_n (k := 0) C dX3_advance_136 rfl rfl ?_
    refine zs_aload_n (k := 1) C dX3_advance_137 rfl rfl ?_
    obtain ⟨h_16, hok⟩ := hok
    refine zk_callVv (As := [.ref (ad (68 + p1))]) (rest := []) C pk_X3_setBucket (by decide) lkX3_165 (m_X3_setBucket hJ (d + 2) σ p1 hp1 h_16) zc_recvS rfl rfl rfl (Nat.le_of_ble_eq_true rfl) dX3_advance_138 ?_
    refine zs_goto (tgt := 176) C dX3_advance_141 (by decide) ?_
    exact zs_vret C hr dX3_advance_176
  have hok := hok.2 c_15
  refine zs_if (fun c_17 => ?_) (fun c_17 => ?_)
  · have hok := hok.1 c_17
    refine zs_tabIn (kx := 10) (tgt := 144) C dX3_advance_4 c_17 (by decide) (by decide) rfl (by decide) ?_
    refine zs_aload_n (k := 0) C dX3_advance_144 rfl rfl ?_
    refine zs_aload_n (k := 1) C dX3_advance_145 rfl rfl ?_
    obtain ⟨h_18, hok⟩ := hok
    refine zk_callVv (As := [.ref (ad (68 + p1))]) (rest := []) C pk_X3_mark (by decide) lkX3_168 (m_X3_mark hJ (d + 1) σ p1 hp1 h_18) zc_recvS rfl rfl rfl (Nat.le_of_ble_eq_true rfl) dX3_advance_146 ?_
    refine zs_goto (tgt := 176) C dX3_advance_149 (by decide) ?_
    exact zs_vret C hr dX3_advance_176
  have hok := hok.2 c_17
  refine zs_if (fun c_19 => ?_) (fun c_19 => ?_)
  · have hok := hok.1 c_19
    refine zs_tabIn (kx := 11) (tgt := 152) C dX3_advance_4 c_19 (by decide) (by decide) rfl (by decide) ?_
    refine zs_aload_n (k := 0) C dX3_advance_152 rfl rfl ?_
    refine zs_aload_n (k := 1) C dX3_advance_153 rfl rfl ?_
    obtain ⟨h_20, hok⟩ := hok
    refine zk_callVv (As := [.ref (ad (68 + p1))]) (rest := []) C pk_X3_unlinkRemoved (by decide) lkX3_171 (m_X3_unlinkRemoved hJ (d + 1) σ p1 hp1 h_20) zc_recvS rfl rfl rfl (Nat.le_of_ble_eq_true rfl) dX3_advance_154 ?_
    refine zs_goto (tgt := 176) C dX3_advance_157 (by decide) ?_
    exact zs_vret C hr dX3_advance_176
  have hok := hok.2 c_19
  refine zs_if (fun c_21 => ?_) (fun c_21 => ?_)
  · have hok := hok.1 c_21
    refine zs_tabIn (kx := 12) (tgt := 160) C dX3_advance_4 c_21 (by decide) (by decide) rfl (by decide) ?_
    refine zs_aload_n (k := 0) C dX3_advance_160 rfl rfl ?_
    refine zs_aload_n (k := 1) C dX3_advance_161 rfl rfl ?_
    obtain ⟨h_22, hok⟩ := hok
    refine zk_callVv (As := [.ref (ad (68 + p1))]) (rest := []) C pk_X3_giveBack (by decide) lkX3_174 (m_X3_giveBack hJ (d + 1) σ p1 hp1 h_22) zc_recvS rfl rfl rfl (Nat.le_of_ble_eq_true rfl) dX3_advance_162 ?_
    refine zs_goto (tgt := 176) C dX3_advance_165 (by decide) ?_
    exact zs_vret C hr dX3_advance_176
  have hok := hok.2 c_21
  refine zs_if (fun c_23 => ?_) (fun c_23 => ?_)
  · have hok := hok.1 c_23
    refine zs_tabIn (kx := 13) (tgt := 168) C dX3_advance_4 c_23 (by decide) (by decide) rfl (by decide) ?_
    refine zs_aload_n (k := 0) C dX3_advance_168 rfl rfl ?_
    refine zs_aload_n (k := 1) C dX3_advance_169 rfl rfl ?_
    refine zk_callVv (As := [.ref (ad (68 + p1))]) (rest := []) C pk_X3_grow (by decide) lkX3_177 (m_X3_grow hJ (d + 1) σ p1 hp1) zc_recvS rfl rfl rfl (Nat.le_of_ble_eq_true rfl) dX3_advance_170 ?_
    refine zs_goto (tgt := 176) C dX3_advance_173 (by decide) ?_
    exact zs_vret C hr dX3_advance_176
  have hok := hok.2 c_23
  refine zs_tabOut (tgt := 176) C dX3_advance_4 (by have : ¬ (σ 10 p1).toInt = 1 := lv_neT c_1 rfl; have : ¬ (σ 10 p1).toInt = 2 := lv_neT c_2 rfl; have : ¬ (σ 10 p1).toInt = 3 := lv_neT c_4 rfl; have : ¬ (σ 10 p1).toInt = 4 := lv_neT c_5 rfl; have : ¬ (σ 10 p1).toInt = 5 := lv_neT c_7 rfl; have : ¬ (σ 10 p1).toInt = 6 := lv_neT c_9 rfl; have : ¬ (σ 10 p1).toInt = 7 := lv_neT c_11 rfl; have : ¬ (σ 10 p1).toInt = 8 := lv_neT c_13 rfl; have : ¬ (σ 10 p1).toInt = 9 := lv_neT c_15 rfl; have : ¬ (σ 10 p1).toInt = 10 := lv_neT c_17 rfl; have : ¬ (σ 10 p1).toInt = 11 := lv_neT c_19 rfl; have : ¬ (σ 10 p1).toInt = 12 := lv_neT c_21 rfl; have : ¬ (σ 10 p1).toInt = 13 := lv_neT c_23 rfl; omega) (by decide) ?_
  exact zs_vret C hr dX3_advance_176

def fn_X3_start (σ : zs_T) (x1 : Int32) (x2 : Int32) (x3 : Int32) (x4 : Int32) : zs_O := (if fr_X3_isProcess σ x1 = 0 then (σ, 0) else (if x2 < 0 then (σ, 0) else (if 2 < x2 then (σ, 0) else (if x3 < 0 then (σ, 0) else (if x3 < 256 then (if x4 < 0 then (σ, 0) else (if 1000000 < x4 then (σ, 0) else (if σ 10 x1.toNatClampNeg = 0 then ((fn_X2_begin σ x1.toNatClampNeg x2 x3 x4).1, 1) else (σ, 0)))) else (σ, 0))))))
set_option maxHeartbeats 4000000 in
set_option maxRecDepth 100000 in
theorem m_X3_start {l : Launch} {D : va_G} {cI cN cW : ClassId} {ad : Nat → Nat} (hJ : zs_J 88 ad) (d : Nat) (σ : zs_T) (x1 : Int32) (x2 : Int32) (x3 : Int32) (x4 : Int32) : zs_M l D vwCl (tysC cI cN cW) 88 ad (wC cI cN cW ad) yX3_start (Cond.code yX3_start cX3_start 6 (some .boolean) :: zw_G) (zw_rm (d + 1)) [.ref (ad 0), .int x1, .int x2, .int x3, .int x4] zs_vi σ (fn_X3_start σ x1 x2 x3 x4) := by
  refine zs_ofZ (cc := cX3_start) (nL := 6) (ret := (some .boolean)) (lv0 := [(0, .ref (ad 0)), (1, .int x1), (2, .int x2), (3, .int x3), (4, .int x4)]) (by decide) rfl hJ (Nat.le_of_ble_eq_true rfl) rfl ?_
  intro p e s m args below meth c C hr
  unfold fn_X3_start
  refine zs_iload_n (k := 1) C dX3_start_0 rfl rfl ?_
  refine zk_callSi (As := [.int x1]) (rest := []) C pk_X3_isProcess (by decide) lkX3_45 (m_X3_isProcess hJ d σ x1) rfl rfl (Nat.le_of_ble_eq_true rfl) dX3_start_1 ?_
  refine zs_if_eq (tgt := 16) C dX3_start_4 (by decide) (fun c_1 => ?_) (fun c_1 => ?_)
  · refine zs_iconst (v := 0) C dX3_start_16 (by decide) ?_
    exact zs_zret C hr rfl dX3_start_17
  · refine zs_iload_n (k := 2) C dX3_start_7 rfl rfl ?_
    refine zs_if_lt (tgt := 16) C dX3_start_8 (by decide) (fun c_2 => ?_) (fun c_2 => ?_)
    · refine zs_iconst (v := 0) C dX3_start_16 (by decide) ?_
      exact zs_zret C hr rfl dX3_start_17
    · refine zs_iload_n (k := 2) C dX3_start_11 rfl rfl ?_
      refine zs_iconst (v := 2) C dX3_start_12 (by decide) ?_
      refine zs_icmp_le (tgt := 18) C dX3_start_13 (by decide) (fun c_3 => ?_) (fun c_3 => ?_)
      · refine zs_iconst (v := 0) C dX3_start_16 (by decide) ?_
        exact zs_zret C hr rfl dX3_start_17
      · refine zs_iload_n (k := 3) C dX3_start_18 rfl rfl ?_
        refine zs_if_lt (tgt := 41) C dX3_start_19 (by decide) (fun c_4 => ?_) (fun c_4 => ?_)
        · refine zs_iconst (v := 0) C dX3_start_41 (by decide) ?_
          exact zs_zret C hr rfl dX3_start_42
        · refine zs_iload_n (k := 3) C dX3_start_22 rfl rfl ?_
          refine zs_sipush (v := 256) C dX3_start_23 (by decide) ?_
          refine zs_icmp_ge (tgt := 41) C dX3_start_26 (by decide) (fun c_5 => ?_) (fun c_5 => ?_)
          · refine zs_iload (k := 4) C dX3_start_29 rfl ?_
            refine zs_if_lt (tgt := 41) C dX3_start_31 (by decide) (fun c_6 => ?_) (fun c_6 => ?_)
            · refine zs_iconst (v := 0) C dX3_start_41 (by decide) ?_
              exact zs_zret C hr rfl dX3_start_42
            · refine zs_iload (k := 4) C dX3_start_34 rfl ?_
              refine zs_ldc (v := 1000000) C (zw_in lkX3_49) dX3_start_36 ?_
              refine zs_icmp_le (tgt := 43) C dX3_start_38 (by decide) (fun c_7 => ?_) (fun c_7 => ?_)
              · refine zs_iconst (v := 0) C dX3_start_41 (by decide) ?_
                exact zs_zret C hr rfl dX3_start_42
              · refine zs_aload_n (k := 0) C dX3_start_43 rfl rfl ?_
                refine gC_S_workers C lkX3_17 dX3_start_44 ?_
                refine zs_iload_n (k := 1) C dX3_start_47 rfl rfl ?_
                refine aC_workers C (zc_inProc c_1) dX3_start_48 ?_
                refine zs_astore (lv' := [(5, .ref (ad (68 + x1.toNatClampNeg))), (0, .ref (ad 0)), (1, .int x1), (2, .int x2), (3, .int x3), (4, .int x4)]) C dX3_start_49 (by decide) rfl ?_
                refine zs_aload (k := 0) C dX3_start_51 rfl ?_
                refine gC_Worker_place C (zs_lt (zc_inProc c_1)) lkX3_50 dX3_start_53 ?_
                refine zs_if_eq (tgt := 61) C dX3_start_56 (by decide) (fun c_8 => ?_) (fun c_8 => ?_)
                · refine zs_aload (k := 0) C dX3_start_61 rfl ?_
                  refine zs_iload_n (k := 3) C dX3_start_63 rfl rfl ?_
                  refine zs_iload_n (k := 4) C dX3_start_64 rfl rfl ?_
                  refine zs_iload (k := 5) C dX3_start_65 rfl ?_
                  refine zk_callVv (As := [.int x2, .int x3, .int x4]) (rest := []) C pk_X2_begin (by decide) lkX3_53 (m_X2_begin hJ d σ x1.toNatClampNeg x2 x3 x4 (zs_lt (zc_inProc c_1))) (zc_recvWorker (zs_lt (zc_inProc c_1))) rfl rfl rfl (Nat.le_of_ble_eq_true rfl) dX3_start_67 ?_
                  refine zs_iconst (v := 1) C dX3_start_70 (by decide) ?_
                  exact zs_zret C hr rfl dX3_start_71
                · refine zs_iconst (v := 0) C dX3_start_59 (by decide) ?_
                  exact zs_zret C hr rfl dX3_start_60
          · refine zs_iconst (v := 0) C dX3_start_41 (by decide) ?_
            exact zs_zret C hr rfl dX3_start_42

def fn_X3_step (σ : zs_T) (x1 : Int32) : zs_O := (if fr_X3_isProcess σ x1 = 0 then (σ, (-1)) else ((fn_X3_advance σ x1.toNatClampNeg).1, ((fn_X3_advance σ x1.toNatClampNeg).1) 10 x1.toNatClampNeg))
def ok_X3_step (σ : zs_T) (x1 : Int32) : Prop := (fr_X3_isProcess σ x1 = 0 → True) ∧ (¬ (fr_X3_isProcess σ x1 = 0) → ok_X3_advance σ x1.toNatClampNeg ∧ (True))
set_option maxHeartbeats 4000000 in
set_option maxRecDepth 100000 in
theorem m_X3_step {l : Launch} {D : va_G} {cI cN cW : ClassId} {ad : Nat → Nat} (hJ : zs_J 88 ad) (d : Nat) (σ : zs_T) (x1 : Int32) (hok : ok_X3_step σ x1) : zs_M l D vwCl (tysC cI cN cW) 88 ad (wC cI cN cW ad) yX3_step (Cond.code yX3_step cX3_step 3 (some .int) :: zw_G) (zw_rm (d + 6)) [.ref (ad 0), .int x1] zs_vi σ (fn_X3_step σ x1) := by
  refine zs_ofZ (cc := cX3_step) (nL := 3) (ret := (some .int)) (lv0 := [(0, .ref (ad 0)), (1, .int x1)]) (by decide) rfl hJ (Nat.le_of_ble_eq_true rfl) rfl ?_
  intro p e s m args below meth c C hr
  unfold ok_X3_step at hok
  unfold fn_X3_step
  refine zs_iload_n (k := 1) C dX3_step_0 rfl rfl ?_
  refine zk_callSi (As := [.int x1]) (rest := []) C pk_X3_isProcess (by decide) lkX3_45 (m_X3_isProcess hJ (d + 5) σ x1) rfl rfl (Nat.le_of_ble_eq_true rfl) dX3_step_1 ?_
  refine zs_if_ne (tgt := 9) C dX3_step_4 (by decide) (fun c_1 => ?_) (fun c_1 => ?_)
  · have hok := hok.1 c_1
    refine zs_iconst (v := (-1)) C dX3_step_7 (by decide) ?_
    exact zs_iret C hr dX3_step_8
  · have hok := hok.2 c_1
    refine zs_aload_n (k := 0) C dX3_step_9 rfl rfl ?_
    refine gC_S_workers C lkX3_17 dX3_step_10 ?_
    refine zs_iload_n (k := 1) C dX3_step_13 rfl rfl ?_
    refine aC_workers C (zc_inProc c_1) dX3_step_14 ?_
    refine zs_astore_n (lv' := [(2, .ref (ad (68 + x1.toNatClampNeg))), (0, .ref (ad 0)), (1, .int x1)]) C dX3_step_15 rfl (by decide) rfl ?_
    refine zs_aload_n (k := 1) C dX3_step_16 rfl rfl ?_
    refine zs_aload_n (k := 0) C dX3_step_17 rfl rfl ?_
    obtain ⟨h_2, hok⟩ := hok
    refine zk_callVv (As := [.ref (ad (68 + x1.toNatClampNeg))]) (rest := []) C pk_X3_advance (by decide) lkX3_57 (m_X3_advance hJ d σ x1.toNatClampNeg (zs_lt (zc_inProc c_1)) h_2) zc_recvS rfl rfl rfl (Nat.le_of_ble_eq_true rfl) dX3_step_18 ?_
    refine zs_aload_n (k := 0) C dX3_step_21 rfl rfl ?_
    refine gC_Worker_place C (zs_lt (zc_inProc c_1)) lkX3_50 dX3_step_22 ?_
    exact zs_iret C hr dX3_step_25

def fn_X3_run_L30 : Nat → zs_T → Int32 → Nat → Int32 → zs_O
  | 0, σ, _, _, _ => (σ, 0)
  | n + 1, σ, x2, p3, x4 => (if x4 < x2 then (if σ 10 p3 = 0 then (σ, x4) else (fn_X3_run_L30 n ((fn_X3_advance σ p3).1) x2 p3 (x4 + 1))) else (σ, x4))
def ok_X3_run_L30 : Nat → zs_T → Int32 → Nat → Int32 → Prop
  | 0, _, _, _, _ => False
  | n + 1, σ, x2, p3, x4 => (x4 < x2 → (σ 10 p3 = 0 → True) ∧ (¬ (σ 10 p3 = 0) → ok_X3_advance σ p3 ∧ ((ok_X3_run_L30 n ((fn_X3_advance σ p3).1) x2 p3 (x4 + 1))))) ∧ (¬ (x4 < x2) → True)
set_option maxHeartbeats 4000000 in
set_option maxRecDepth 100000 in
theorem lp_X3_run_L30 {p : Program} {l : Launch} {e : Env} {s : State} {m : MethodId} {args : Array Value} {below : List Frame} {meth : Method} {c : Code} {D : va_G} {cI cN cW : ClassId} {ad : Nat → Nat} (C : zs_C p s m args meth c cX3_run 5 (Cond.code yX3_run cX3_run 5 (some .int) :: zw_G) yX3_run.cls D vwCl (tysC cI cN cW) 88 ad) (hr : meth.sig.returnType = (some .int)) (d : Nat) : ∀ (n : Nat) (σ : zs_T) (x2 : Int32) (p3 : Nat) (x4 : Int32) (hp3 : p3 < 4), ok_X3_run_L30 n σ x2 p3 x4 → zs_Z p l e (zw_rm (d + 6)) s m args below meth c D vwCl 88 ad (wC cI cN cW ad) 5 zs_vi (fn_X3_run_L30 n σ x2 p3 x4) σ 30 [(0, .ref (ad 0)), (2, .int x2), (3, .ref (ad (68 + p3))), (4, .int x4)] [] := by
  have hJ := C.2.2.1
  intro n
  induction n with
  | zero => intro σ x2 p3 x4 hp3 hok; exact hok.elim
  | succ n ih =>
    intro σ x2 p3 x4 hp3 hok
    rw [ok_X3_run_L30] at hok
    rw [fn_X3_run_L30]
    refine zs_iload (k := 3) C dX3_run_30 rfl ?_
    refine zs_iload_n (k := 1) C dX3_run_32 rfl rfl ?_
    refine zs_icmp_ge (tgt := 54) C dX3_run_33 (by decide) (fun c_4 => ?_) (fun c_4 => ?_)
    · have hok := hok.1 c_4
      refine zs_aload_n (k := 2) C dX3_run_36 rfl rfl ?_
      refine gC_Worker_place C hp3 lkX3_50 dX3_run_37 ?_
      refine zs_if_eq (tgt := 54) C dX3_run_40 (by decide) (fun c_5 => ?_) (fun c_5 => ?_)
      · have hok := hok.1 c_5
        refine zs_iload (k := 3) C dX3_run_54 rfl ?_
        exact zs_iret C hr dX3_run_56
      · have hok := hok.2 c_5
        refine zs_aload_n (k := 0) C dX3_run_43 rfl rfl ?_
        refine zs_aload_n (k := 2) C dX3_run_44 rfl rfl ?_
        obtain ⟨h_6, hok⟩ := hok
        refine zk_callVv (As := [.ref (ad (68 + p3))]) (rest := []) C pk_X3_advance (by decide) lkX3_57 (m_X3_advance hJ d σ p3 hp3 h_6) zc_recvS rfl rfl rfl (Nat.le_of_ble_eq_true rfl) dX3_run_45 ?_
        refine zs_iinc (k := 3) (v := x4 + 1) (lv' := [(4, .int (x4 + 1)), (0, .ref (ad 0)), (2, .int x2), (3, .ref (ad (68 + p3)))]) C dX3_run_48 rfl rfl (by decide) rfl ?_
        refine zs_goto (tgt := 30) C dX3_run_51 (by decide) ?_
        exact zs_sub [1, 2, 3, 0] rfl (ih ((fn_X3_advance σ p3).1) x2 p3 (x4 + 1) hp3 hok)
    · have hok := hok.2 c_4
      refine zs_iload (k := 3) C dX3_run_54 rfl ?_
      exact zs_iret C hr dX3_run_56
def fn_X3_run (σ : zs_T) (x1 : Int32) (x2 : Int32) : zs_O := (if fr_X3_isProcess σ x1 = 0 then (σ, (-1)) else (if x2 < 0 then (σ, (-1)) else (if 1000 < x2 then (σ, (-1)) else (fn_X3_run_L30 1001 σ x2 x1.toNatClampNeg 0))))
def ok_X3_run (σ : zs_T) (x1 : Int32) (x2 : Int32) : Prop := (fr_X3_isProcess σ x1 = 0 → True) ∧ (¬ (fr_X3_isProcess σ x1 = 0) → (x2 < 0 → True) ∧ (¬ (x2 < 0) → (1000 < x2 → True) ∧ (¬ (1000 < x2) → (ok_X3_run_L30 1001 σ x2 x1.toNatClampNeg 0))))
set_option maxHeartbeats 4000000 in
set_option maxRecDepth 100000 in
theorem m_X3_run {l : Launch} {D : va_G} {cI cN cW : ClassId} {ad : Nat → Nat} (hJ : zs_J 88 ad) (d : Nat) (σ : zs_T) (x1 : Int32) (x2 : Int32) (hok : ok_X3_run σ x1 x2) : zs_M l D vwCl (tysC cI cN cW) 88 ad (wC cI cN cW ad) yX3_run (Cond.code yX3_run cX3_run 5 (some .int) :: zw_G) (zw_rm (d + 6)) [.ref (ad 0), .int x1, .int x2] zs_vi σ (fn_X3_run σ x1 x2) := by
  refine zs_ofZ (cc := cX3_run) (nL := 5) (ret := (some .int)) (lv0 := [(0, .ref (ad 0)), (1, .int x1), (2, .int x2)]) (by decide) rfl hJ (Nat.le_of_ble_eq_true rfl) rfl ?_
  intro p e s m args below meth c C hr
  unfold ok_X3_run at hok
  unfold fn_X3_run
  refine zs_iload_n (k := 1) C dX3_run_0 rfl rfl ?_
  refine zk_callSi (As := [.int x1]) (rest := []) C pk_X3_isProcess (by decide) lkX3_45 (m_X3_isProcess hJ (d + 5) σ x1) rfl rfl (Nat.le_of_ble_eq_true rfl) dX3_run_1 ?_
  refine zs_if_eq (tgt := 18) C dX3_run_4 (by decide) (fun c_1 => ?_) (fun c_1 => ?_)
  · have hok := hok.1 c_1
    refine zs_iconst (v := (-1)) C dX3_run_18 (by decide) ?_
    exact zs_iret C hr dX3_run_19
  · have hok := hok.2 c_1
    refine zs_iload_n (k := 2) C dX3_run_7 rfl rfl ?_
    refine zs_if_lt (tgt := 18) C dX3_run_8 (by decide) (fun c_2 => ?_) (fun c_2 => ?_)
    · have hok := hok.1 c_2
      refine zs_iconst (v := (-1)) C dX3_run_18 (by decide) ?_
      exact zs_iret C hr dX3_run_19
    · have hok := hok.2 c_2
      refine zs_iload_n (k := 2) C dX3_run_11 rfl rfl ?_
      refine zs_sipush (v := 1000) C dX3_run_12 (by decide) ?_
      refine zs_icmp_le (tgt := 20) C dX3_run_15 (by decide) (fun c_3 => ?_) (fun c_3 => ?_)
      · have hok := hok.1 c_3
        refine zs_iconst (v := (-1)) C dX3_run_18 (by decide) ?_
        exact zs_iret C hr dX3_run_19
      · have hok := hok.2 c_3
        refine zs_aload_n (k := 0) C dX3_run_20 rfl rfl ?_
        refine gC_S_workers C lkX3_17 dX3_run_21 ?_
        refine zs_iload_n (k := 1) C dX3_run_24 rfl rfl ?_
        refine aC_workers C (zc_inProc c_1) dX3_run_25 ?_
        refine zs_astore_n (lv' := [(3, .ref (ad (68 + x1.toNatClampNeg))), (0, .ref (ad 0)), (1, .int x1), (2, .int x2)]) C dX3_run_26 rfl (by decide) rfl ?_
        refine zs_iconst (v := 0) C dX3_run_27 (by decide) ?_
        refine zs_istore (lv' := [(4, .int 0), (3, .ref (ad (68 + x1.toNatClampNeg))), (0, .ref (ad 0)), (1, .int x1), (2, .int x2)]) C dX3_run_28 (by decide) rfl ?_
        exact zs_sub [2, 4, 1, 0] rfl (lp_X3_run_L30 C hr d 1001 σ x2 x1.toNatClampNeg 0 (zs_lt (zc_inProc c_1)) hok)

def fr_X3_bucket (σ : zs_T) (x1 : Int32) : Int32 := fr_X3_nodeOfBucket σ x1
set_option maxHeartbeats 4000000 in
set_option maxRecDepth 100000 in
theorem m_X3_bucket {l : Launch} {D : va_G} {cI cN cW : ClassId} {ad : Nat → Nat} (hJ : zs_J 88 ad) (d : Nat) (σ : zs_T) (x1 : Int32) : zs_M l D vwCl (tysC cI cN cW) 88 ad (wC cI cN cW ad) yX3_bucket (Cond.code yX3_bucket cX3_bucket 2 (some .int) :: zw_G) (zw_rm (d + 2)) [.ref (ad 0), .int x1] zs_vi σ (σ, fr_X3_bucket σ x1) := by
  refine zs_ofZ (cc := cX3_bucket) (nL := 2) (ret := (some .int)) (lv0 := [(0, .ref (ad 0)), (1, .int x1)]) (by decide) rfl hJ (Nat.le_of_ble_eq_true rfl) rfl ?_
  intro p e s m args below meth c C hr
  unfold fr_X3_bucket
  refine zs_aload_n (k := 0) C dX3_bucket_0 rfl rfl ?_
  refine zs_iload_n (k := 1) C dX3_bucket_1 rfl rfl ?_
  refine zk_callVi (As := [.int x1]) (rest := []) C pk_X3_nodeOfBucket (by decide) lkX3_135 (m_X3_nodeOfBucket hJ d σ x1) zc_recvS rfl rfl rfl (Nat.le_of_ble_eq_true rfl) dX3_bucket_2 ?_
  exact zs_iret C hr dX3_bucket_5

def fr_X3_total (σ : zs_T) (x1 : Int32) : Int32 := (if x1 = 0 then σ 32 0 else (if x1 = 1 then σ 33 0 else (if x1 = 2 then σ 34 0 else (if x1 = 3 then fr_X3_countNodes σ 0 else (if x1 = 4 then fr_X3_countNodes σ 2 else (-1))))))
def ok_X3_total (σ : zs_T) (x1 : Int32) : Prop := (x1 = 0 → True) ∧ (¬ (x1 = 0) → (x1 = 1 → True) ∧ (¬ (x1 = 1) → (x1 = 2 → True) ∧ (¬ (x1 = 2) → (x1 = 3 → ok_X3_countNodes σ 0 ∧ (True)) ∧ (¬ (x1 = 3) → (x1 = 4 → ok_X3_countNodes σ 2 ∧ (True)) ∧ (¬ (x1 = 4) → True)))))
set_option maxHeartbeats 4000000 in
set_option maxRecDepth 100000 in
theorem m_X3_total {l : Launch} {D : va_G} {cI cN cW : ClassId} {ad : Nat → Nat} (hJ : zs_J 88 ad) (d : Nat) (σ : zs_T) (x1 : Int32) (hok : ok_X3_total σ x1) : zs_M l D vwCl (tysC cI cN cW) 88 ad (wC cI cN cW ad) yX3_total (Cond.code yX3_total cX3_total 2 (some .int) :: zw_G) (zw_rm (d + 1)) [.ref (ad 0), .int x1] zs_vi σ (σ, fr_X3_total σ x1) := by
  refine zs_ofZ (cc := cX3_total) (nL := 2) (ret := (some .int)) (lv0 := [(0, .ref (ad 0)), (1, .int x1)]) (by decide) rfl hJ (Nat.le_of_ble_eq_true rfl) rfl ?_
  intro p e s m args below meth c C hr
  unfold ok_X3_total at hok
  unfold fr_X3_total
  refine zs_iload_n (k := 1) C dX3_total_0 rfl rfl ?_
  refine zs_ifP (fun c_1 => ?_) (fun c_1 => ?_)
  · have hok := hok.1 c_1
    refine zs_tabIn (kx := 0) (tgt := 36) C dX3_total_1 c_1 (by decide) (by decide) rfl (by decide) ?_
    refine zs_aload_n (k := 0) C dX3_total_36 rfl rfl ?_
    refine gC_S_size C lkX3_25 dX3_total_37 ?_
    exact zs_iret C hr dX3_total_40
  have hok := hok.2 c_1
  refine zs_ifP (fun c_2 => ?_) (fun c_2 => ?_)
  · have hok := hok.1 c_2
    refine zs_tabIn (kx := 1) (tgt := 41) C dX3_total_1 c_2 (by decide) (by decide) rfl (by decide) ?_
    refine zs_aload_n (k := 0) C dX3_total_41 rfl rfl ?_
    refine gC_S_count C lkX3_29 dX3_total_42 ?_
    exact zs_iret C hr dX3_total_45
  have hok := hok.2 c_2
  refine zs_ifP (fun c_3 => ?_) (fun c_3 => ?_)
  · have hok := hok.1 c_3
    refine zs_tabIn (kx := 2) (tgt := 46) C dX3_total_1 c_3 (by decide) (by decide) rfl (by decide) ?_
    refine zs_aload_n (k := 0) C dX3_total_46 rfl rfl ?_
    refine gC_S_era C lkX3_32 dX3_total_47 ?_
    exact zs_iret C hr dX3_total_50
  have hok := hok.2 c_3
  refine zs_ifP (fun c_4 => ?_) (fun c_4 => ?_)
  · have hok := hok.1 c_4
    refine zs_tabIn (kx := 3) (tgt := 51) C dX3_total_1 c_4 (by decide) (by decide) rfl (by decide) ?_
    refine zs_aload_n (k := 0) C dX3_total_51 rfl rfl ?_
    refine zs_iconst (v := 0) C dX3_total_52 (by decide) ?_
    obtain ⟨h_5, hok⟩ := hok
    refine zk_callVi (As := [.int 0]) (rest := []) C pk_X3_countNodes (by decide) lkX3_138 (m_X3_countNodes hJ d σ 0 h_5) zc_recvS rfl rfl rfl (Nat.le_of_ble_eq_true rfl) dX3_total_53 ?_
    exact zs_iret C hr dX3_total_56
  have hok := hok.2 c_4
  refine zs_ifP (fun c_6 => ?_) (fun c_6 => ?_)
  · have hok := hok.1 c_6
    refine zs_tabIn (kx := 4) (tgt := 57) C dX3_total_1 c_6 (by decide) (by decide) rfl (by decide) ?_
    refine zs_aload_n (k := 0) C dX3_total_57 rfl rfl ?_
    refine zs_iconst (v := 2) C dX3_total_58 (by decide) ?_
    obtain ⟨h_7, hok⟩ := hok
    refine zk_callVi (As := [.int 2]) (rest := []) C pk_X3_countNodes (by decide) lkX3_138 (m_X3_countNodes hJ d σ 2 h_7) zc_recvS rfl rfl rfl (Nat.le_of_ble_eq_true rfl) dX3_total_59 ?_
    exact zs_iret C hr dX3_total_62
  have hok := hok.2 c_6
  refine zs_tabOut (tgt := 63) C dX3_total_1 (by have : ¬ (x1).toInt = 0 := lv_neT c_1 rfl; have : ¬ (x1).toInt = 1 := lv_neT c_2 rfl; have : ¬ (x1).toInt = 2 := lv_neT c_3 rfl; have : ¬ (x1).toInt = 3 := lv_neT c_4 rfl; have : ¬ (x1).toInt = 4 := lv_neT c_6 rfl; omega) (by decide) ?_
  refine zs_iconst (v := (-1)) C dX3_total_63 (by decide) ?_
  exact zs_iret C hr dX3_total_64

def fr_X3_result (σ : zs_T) (x1 : Int32) : Int32 := (if fr_X3_isProcess σ x1 = 0 then 0 else σ 26 x1.toNatClampNeg)
def ok_X3_result (σ : zs_T) (x1 : Int32) : Prop := (fr_X3_isProcess σ x1 = 0 → False) ∧ (¬ (fr_X3_isProcess σ x1 = 0) → True)
set_option maxHeartbeats 4000000 in
set_option maxRecDepth 100000 in
theorem m_X3_result {l : Launch} {D : va_G} {cI cN cW : ClassId} {ad : Nat → Nat} (hJ : zs_J 88 ad) (d : Nat) (σ : zs_T) (x1 : Int32) (hok : ok_X3_result σ x1) : zs_M l D vwCl (tysC cI cN cW) 88 ad (wC cI cN cW ad) yX3_result (Cond.code yX3_result cX3_result 2 (some .int) :: zw_G) (zw_rm (d + 1)) [.ref (ad 0), .int x1] zs_vi σ (σ, fr_X3_result σ x1) := by
  refine zs_ofZ (cc := cX3_result) (nL := 2) (ret := (some .int)) (lv0 := [(0, .ref (ad 0)), (1, .int x1)]) (by decide) rfl hJ (Nat.le_of_ble_eq_true rfl) rfl ?_
  intro p e s m args below meth c C hr
  unfold ok_X3_result at hok
  unfold fr_X3_result
  refine zs_iload_n (k := 1) C dX3_result_0 rfl rfl ?_
  refine zk_callSi (As := [.int x1]) (rest := []) C pk_X3_isProcess (by decide) lkX3_45 (m_X3_isProcess hJ d σ x1) rfl rfl (Nat.le_of_ble_eq_true rfl) dX3_result_1 ?_
  refine zs_if_neP (tgt := 17) C dX3_result_4 (by decide) (fun c_1 => ?_) (fun c_1 => ?_)
  · have hok := hok.1 c_1
    exact hok.elim
  · have hok := hok.2 c_1
    refine zs_aload_n (k := 0) C dX3_result_17 rfl rfl ?_
    refine gC_S_workers C lkX3_17 dX3_result_18 ?_
    refine zs_iload_n (k := 1) C dX3_result_21 rfl rfl ?_
    refine aC_workers C (zc_inProc c_1) dX3_result_22 ?_
    refine gC_Worker_latest C (zs_lt (zc_inProc c_1)) lkX3_68 dX3_result_23 ?_
    exact zs_iret C hr dX3_result_26

def fr_X3_process (σ : zs_T) (x1 : Int32) (x2 : Int32) : Int32 := (if fr_X3_isProcess σ x1 = 0 then 0 else (if x2 = 0 then σ 10 x1.toNatClampNeg else (if x2 = 1 then σ 14 x1.toNatClampNeg else (if x2 = 2 then σ 15 x1.toNatClampNeg else (if x2 = 3 then σ 30 (4 + x1.toNatClampNeg) else (if x2 = 4 then σ 30 x1.toNatClampNeg else (if x2 = 5 then σ 18 x1.toNatClampNeg else (if x2 = 6 then σ 19 x1.toNatClampNeg else (if x2 = 7 then σ 20 x1.toNatClampNeg else (if x2 = 8 then σ 22 x1.toNatClampNeg else 0))))))))))
def ok_X3_process (σ : zs_T) (x1 : Int32) (x2 : Int32) : Prop := (fr_X3_isProcess σ x1 = 0 → False) ∧ (¬ (fr_X3_isProcess σ x1 = 0) → (x2 = 0 → True) ∧ (¬ (x2 = 0) → (x2 = 1 → True) ∧ (¬ (x2 = 1) → (x2 = 2 → True) ∧ (¬ (x2 = 2) → (x2 = 3 → True) ∧ (¬ (x2 = 3) → (x2 = 4 → True) ∧ (¬ (x2 = 4) → (x2 = 5 → True) ∧ (¬ (x2 = 5) → (x2 = 6 → True) ∧ (¬ (x2 = 6) → (x2 = 7 → True) ∧ (¬ (x2 = 7) → (x2 = 8 → True) ∧ (¬ (x2 = 8) → False))))))))))
set_option maxHeartbeats 4000000 in
set_option maxRecDepth 100000 in
theorem m_X3_process {l : Launch} {D : va_G} {cI cN cW : ClassId} {ad : Nat → Nat} (hJ : zs_J 88 ad) (d : Nat) (σ : zs_T) (x1 : Int32) (x2 : Int32) (hok : ok_X3_process σ x1 x2) : zs_M l D vwCl (tysC cI cN cW) 88 ad (wC cI cN cW ad) yX3_process (Cond.code yX3_process cX3_process 4 (some .int) :: zw_G) (zw_rm (d + 1)) [.ref (ad 0), .int x1, .int x2] zs_vi σ (σ, fr_X3_process σ x1 x2) := by
  refine zs_ofZ (cc := cX3_process) (nL := 4) (ret := (some .int)) (lv0 := [(0, .ref (ad 0)), (1, .int x1), (2, .int x2)]) (by decide) rfl hJ (Nat.le_of_ble_eq_true rfl) rfl ?_
  intro p e s m args below meth c C hr
  unfold ok_X3_process at hok
  unfold fr_X3_process
  refine zs_iload_n (k := 1) C dX3_process_0 rfl rfl ?_
  refine zk_callSi (As := [.int x1]) (rest := []) C pk_X3_isProcess (by decide) lkX3_45 (m_X3_isProcess hJ d σ x1) rfl rfl (Nat.le_of_ble_eq_true rfl) dX3_process_1 ?_
  refine zs_if_neP (tgt := 17) C dX3_process_4 (by decide) (fun c_1 => ?_) (fun c_1 => ?_)
  · have hok := hok.1 c_1
    exact hok.elim
  · have hok := hok.2 c_1
    refine zs_aload_n (k := 0) C dX3_process_17 rfl rfl ?_
    refine gC_S_workers C lkX3_17 dX3_process_18 ?_
    refine zs_iload_n (k := 1) C dX3_process_21 rfl rfl ?_
    refine aC_workers C (zc_inProc c_1) dX3_process_22 ?_
    refine zs_astore_n (lv' := [(3, .ref (ad (68 + x1.toNatClampNeg))), (0, .ref (ad 0)), (1, .int x1), (2, .int x2)]) C dX3_process_23 rfl (by decide) rfl ?_
    refine zs_iload_n (k := 3) C dX3_process_24 rfl rfl ?_
    refine zs_ifP (fun c_2 => ?_) (fun c_2 => ?_)
    · have hok := hok.1 c_2
      refine zs_tabIn (kx := 0) (tgt := 76) C dX3_process_25 c_2 (by decide) (by decide) rfl (by decide) ?_
      refine zs_aload_n (k := 0) C dX3_process_76 rfl rfl ?_
      refine gC_Worker_place C (zs_lt (zc_inProc c_1)) lkX3_50 dX3_process_77 ?_
      exact zs_iret C hr dX3_process_80
    have hok := hok.2 c_2
    refine zs_ifP (fun c_3 => ?_) (fun c_3 => ?_)
    · have hok := hok.1 c_3
      refine zs_tabIn (kx := 1) (tgt := 81) C dX3_process_25 c_3 (by decide) (by decide) rfl (by decide) ?_
      refine zs_aload_n (k := 0) C dX3_process_81 rfl rfl ?_
      refine gC_Worker_low C (zs_lt (zc_inProc c_1)) lkX3_71 dX3_process_82 ?_
      exact zs_iret C hr dX3_process_85
    have hok := hok.2 c_3
    refine zs_ifP (fun c_4 => ?_) (fun c_4 => ?_)
    · have hok := hok.1 c_4
      refine zs_tabIn (kx := 2) (tgt := 86) C dX3_process_25 c_4 (by decide) (by decide) rfl (by decide) ?_
      refine zs_aload_n (k := 0) C dX3_process_86 rfl rfl ?_
      refine gC_Worker_high C (zs_lt (zc_inProc c_1)) lkX3_74 dX3_process_87 ?_
      exact zs_iret C hr dX3_process_90
    have hok := hok.2 c_4
    refine zs_ifP (fun c_5 => ?_) (fun c_5 => ?_)
    · have hok := hok.1 c_5
      refine zs_tabIn (kx := 3) (tgt := 91) C dX3_process_25 c_5 (by decide) (by decide) rfl (by decide) ?_
      refine zs_aload_n (k := 0) C dX3_process_91 rfl rfl ?_
      refine gC_Worker_row C (zs_lt (zc_inProc c_1)) lkX3_77 dX3_process_92 ?_
      refine gC_Num_length C (zc_8b (zs_lt (zc_inProc c_1))) lkX3_81 dX3_process_95 ?_
      exact zs_iret C hr dX3_process_98
    have hok := hok.2 c_5
    refine zs_ifP (fun c_6 => ?_) (fun c_6 => ?_)
    · have hok := hok.1 c_6
      refine zs_tabIn (kx := 4) (tgt := 99) C dX3_process_25 c_6 (by decide) (by decide) rfl (by decide) ?_
      refine zs_aload_n (k := 0) C dX3_process_99 rfl rfl ?_
      refine gC_Worker_stack C (zs_lt (zc_inProc c_1)) lkX3_86 dX3_process_100 ?_
      refine gC_Num_length C (zc_8a (zs_lt (zc_inProc c_1))) lkX3_81 dX3_process_103 ?_
      exact zs_iret C hr dX3_process_106
    have hok := hok.2 c_6
    refine zs_ifP (fun c_7 => ?_) (fun c_7 => ?_)
    · have hok := hok.1 c_7
      refine zs_tabIn (kx := 5) (tgt := 107) C dX3_process_25 c_7 (by decide) (by decide) rfl (by decide) ?_
      refine zs_aload_n (k := 0) C dX3_process_107 rfl rfl ?_
      refine gC_Worker_prev C (zs_lt (zc_inProc c_1)) lkX3_89 dX3_process_108 ?_
      exact zs_iret C hr dX3_process_111
    have hok := hok.2 c_7
    refine zs_ifP (fun c_8 => ?_) (fun c_8 => ?_)
    · have hok := hok.1 c_8
      refine zs_tabIn (kx := 6) (tgt := 112) C dX3_process_25 c_8 (by decide) (by decide) rfl (by decide) ?_
      refine zs_aload_n (k := 0) C dX3_process_112 rfl rfl ?_
      refine gC_Worker_cur C (zs_lt (zc_inProc c_1)) lkX3_92 dX3_process_113 ?_
      exact zs_iret C hr dX3_process_116
    have hok := hok.2 c_8
    refine zs_ifP (fun c_9 => ?_) (fun c_9 => ?_)
    · have hok := hok.1 c_9
      refine zs_tabIn (kx := 7) (tgt := 117) C dX3_process_25 c_9 (by decide) (by decide) rfl (by decide) ?_
      refine zs_aload_n (k := 0) C dX3_process_117 rfl rfl ?_
      refine gC_Worker_nxt C (zs_lt (zc_inProc c_1)) lkX3_95 dX3_process_118 ?_
      exact zs_iret C hr dX3_process_121
    have hok := hok.2 c_9
    refine zs_ifP (fun c_10 => ?_) (fun c_10 => ?_)
    · have hok := hok.1 c_10
      refine zs_tabIn (kx := 8) (tgt := 122) C dX3_process_25 c_10 (by decide) (by decide) rfl (by decide) ?_
      refine zs_aload_n (k := 0) C dX3_process_122 rfl rfl ?_
      refine gC_Worker_own C (zs_lt (zc_inProc c_1)) lkX3_98 dX3_process_123 ?_
      exact zs_iret C hr dX3_process_126
    have hok := hok.2 c_10
    refine zs_tabOut (tgt := 127) C dX3_process_25 (by have : ¬ (x2).toInt = 0 := lv_neT c_2 rfl; have : ¬ (x2).toInt = 1 := lv_neT c_3 rfl; have : ¬ (x2).toInt = 2 := lv_neT c_4 rfl; have : ¬ (x2).toInt = 3 := lv_neT c_5 rfl; have : ¬ (x2).toInt = 4 := lv_neT c_6 rfl; have : ¬ (x2).toInt = 5 := lv_neT c_7 rfl; have : ¬ (x2).toInt = 6 := lv_neT c_8 rfl; have : ¬ (x2).toInt = 7 := lv_neT c_9 rfl; have : ¬ (x2).toInt = 8 := lv_neT c_10 rfl; omega) (by decide) ?_
    exact hok.elim

def fr_X3_node (σ : zs_T) (x1 : Int32) (x2 : Int32) : Int32 := (if fr_X3_isNode σ x1 = 0 then 0 else (if x2 = 0 then σ 0 x1.toNatClampNeg else (if x2 = 1 then σ 1 x1.toNatClampNeg else (if x2 = 2 then σ 2 x1.toNatClampNeg else (if x2 = 3 then (if σ 3 x1.toNatClampNeg = 0 then 0 else 1) else (if x2 = 4 then σ 4 x1.toNatClampNeg else (if x2 = 5 then σ 5 x1.toNatClampNeg else (if x2 = 6 then σ 6 x1.toNatClampNeg else (if x2 = 7 then σ 7 x1.toNatClampNeg else 0)))))))))
def ok_X3_node (σ : zs_T) (x1 : Int32) (x2 : Int32) : Prop := (fr_X3_isNode σ x1 = 0 → False) ∧ (¬ (fr_X3_isNode σ x1 = 0) → (x2 = 0 → True) ∧ (¬ (x2 = 0) → (x2 = 1 → True) ∧ (¬ (x2 = 1) → (x2 = 2 → True) ∧ (¬ (x2 = 2) → (x2 = 3 → True) ∧ (¬ (x2 = 3) → (x2 = 4 → True) ∧ (¬ (x2 = 4) → (x2 = 5 → True) ∧ (¬ (x2 = 5) → (x2 = 6 → True) ∧ (¬ (x2 = 6) → (x2 = 7 → True) ∧ (¬ (x2 = 7) → False)))))))))
set_option maxHeartbeats 4000000 in
set_option maxRecDepth 100000 in
theorem m_X3_node {l : Launch} {D : va_G} {cI cN cW : ClassId} {ad : Nat → Nat} (hJ : zs_J 88 ad) (d : Nat) (σ : zs_T) (x1 : Int32) (x2 : Int32) (hok : ok_X3_node σ x1 x2) : zs_M l D vwCl (tysC cI cN cW) 88 ad (wC cI cN cW ad) yX3_node (Cond.code yX3_node cX3_node 4 (some .int) :: zw_G) (zw_rm (d + 1)) [.ref (ad 0), .int x1, .int x2] zs_vi σ (σ, fr_X3_node σ x1 x2) := by
  refine zs_ofZ (cc := cX3_node) (nL := 4) (ret := (some .int)) (lv0 := [(0, .ref (ad 0)), (1, .int x1), (2, .int x2)]) (by decide) rfl hJ (Nat.le_of_ble_eq_true rfl) rfl ?_
  intro p e s m args below meth c C hr
  unfold ok_X3_node at hok
  unfold fr_X3_node
  refine zs_iload_n (k := 1) C dX3_node_0 rfl rfl ?_
  refine zk_callSi (As := [.int x1]) (rest := []) C pk_X3_isNode (by decide) lkX3_103 (m_X3_isNode hJ d σ x1) rfl rfl (Nat.le_of_ble_eq_true rfl) dX3_node_1 ?_
  refine zs_if_neP (tgt := 17) C dX3_node_4 (by decide) (fun c_1 => ?_) (fun c_1 => ?_)
  · have hok := hok.1 c_1
    exact hok.elim
  · have hok := hok.2 c_1
    refine zs_aload_n (k := 0) C dX3_node_17 rfl rfl ?_
    refine gC_S_nodes C lkX3_11 dX3_node_18 ?_
    refine zs_iload_n (k := 1) C dX3_node_21 rfl rfl ?_
    refine aC_nodes C (zc_inNode c_1) dX3_node_22 ?_
    refine zs_astore_n (lv' := [(3, .ref (ad (4 + x1.toNatClampNeg))), (0, .ref (ad 0)), (1, .int x1), (2, .int x2)]) C dX3_node_23 rfl (by decide) rfl ?_
    refine zs_iload_n (k := 3) C dX3_node_24 rfl rfl ?_
    refine zs_ifP (fun c_2 => ?_) (fun c_2 => ?_)
    · have hok := hok.1 c_2
      refine zs_tabIn (kx := 0) (tgt := 72) C dX3_node_25 c_2 (by decide) (by decide) rfl (by decide) ?_
      refine zs_aload_n (k := 0) C dX3_node_72 rfl rfl ?_
      refine gC_Node_state C (zs_lt (zc_inNode c_1)) lkX3_108 dX3_node_73 ?_
      exact zs_iret C hr dX3_node_76
    have hok := hok.2 c_2
    refine zs_ifP (fun c_3 => ?_) (fun c_3 => ?_)
    · have hok := hok.1 c_3
      refine zs_tabIn (kx := 1) (tgt := 77) C dX3_node_25 c_3 (by decide) (by decide) rfl (by decide) ?_
      refine zs_aload_n (k := 0) C dX3_node_77 rfl rfl ?_
      refine gC_Node_order C (zs_lt (zc_inNode c_1)) lkX3_111 dX3_node_78 ?_
      exact zs_iret C hr dX3_node_81
    have hok := hok.2 c_3
    refine zs_ifP (fun c_4 => ?_) (fun c_4 => ?_)
    · have hok := hok.1 c_4
      refine zs_tabIn (kx := 2) (tgt := 82) C dX3_node_25 c_4 (by decide) (by decide) rfl (by decide) ?_
      refine zs_aload_n (k := 0) C dX3_node_82 rfl rfl ?_
      refine gC_Node_next C (zs_lt (zc_inNode c_1)) lkX3_114 dX3_node_83 ?_
      exact zs_iret C hr dX3_node_86
    have hok := hok.2 c_4
    refine zs_ifP (fun c_5 => ?_) (fun c_5 => ?_)
    · have hok := hok.1 c_5
      refine zs_tabIn (kx := 3) (tgt := 87) C dX3_node_25 c_5 (by decide) (by decide) rfl (by decide) ?_
      refine zs_aload_n (k := 0) C dX3_node_87 rfl rfl ?_
      refine gC_Node_marked C (zs_lt (zc_inNode c_1)) lkX3_117 dX3_node_88 ?_
      refine zs_if_eqP (tgt := 98) C dX3_node_91 (by decide) (fun c_6 => ?_) (fun c_6 => ?_)
      · refine zs_iconst (v := 0) C dX3_node_98 (by decide) ?_
        exact zs_iret C hr dX3_node_99
      · refine zs_iconst (v := 1) C dX3_node_94 (by decide) ?_
        refine zs_goto (tgt := 99) C dX3_node_95 (by decide) ?_
        exact zs_iret C hr dX3_node_99
    have hok := hok.2 c_5
    refine zs_ifP (fun c_7 => ?_) (fun c_7 => ?_)
    · have hok := hok.1 c_7
      refine zs_tabIn (kx := 4) (tgt := 100) C dX3_node_25 c_7 (by decide) (by decide) rfl (by decide) ?_
      refine zs_aload_n (k := 0) C dX3_node_100 rfl rfl ?_
      refine gC_Node_key C (zs_lt (zc_inNode c_1)) lkX3_121 dX3_node_101 ?_
      exact zs_iret C hr dX3_node_104
    have hok := hok.2 c_7
    refine zs_ifP (fun c_8 => ?_) (fun c_8 => ?_)
    · have hok := hok.1 c_8
      refine zs_tabIn (kx := 5) (tgt := 105) C dX3_node_25 c_8 (by decide) (by decide) rfl (by decide) ?_
      refine zs_aload_n (k := 0) C dX3_node_105 rfl rfl ?_
      refine gC_Node_value C (zs_lt (zc_inNode c_1)) lkX3_124 dX3_node_106 ?_
      exact zs_iret C hr dX3_node_109
    have hok := hok.2 c_8
    refine zs_ifP (fun c_9 => ?_) (fun c_9 => ?_)
    · have hok := hok.1 c_9
      refine zs_tabIn (kx := 6) (tgt := 110) C dX3_node_25 c_9 (by decide) (by decide) rfl (by decide) ?_
      refine zs_aload_n (k := 0) C dX3_node_110 rfl rfl ?_
      refine gC_Node_born C (zs_lt (zc_inNode c_1)) lkX3_127 dX3_node_111 ?_
      exact zs_iret C hr dX3_node_114
    have hok := hok.2 c_9
    refine zs_ifP (fun c_10 => ?_) (fun c_10 => ?_)
    · have hok := hok.1 c_10
      refine zs_tabIn (kx := 7) (tgt := 115) C dX3_node_25 c_10 (by decide) (by decide) rfl (by decide) ?_
      refine zs_aload_n (k := 0) C dX3_node_115 rfl rfl ?_
      refine gC_Node_died C (zs_lt (zc_inNode c_1)) lkX3_130 dX3_node_116 ?_
      exact zs_iret C hr dX3_node_119
    have hok := hok.2 c_10
    refine zs_tabOut (tgt := 120) C dX3_node_25 (by have : ¬ (x2).toInt = 0 := lv_neT c_2 rfl; have : ¬ (x2).toInt = 1 := lv_neT c_3 rfl; have : ¬ (x2).toInt = 2 := lv_neT c_4 rfl; have : ¬ (x2).toInt = 3 := lv_neT c_5 rfl; have : ¬ (x2).toInt = 4 := lv_neT c_7 rfl; have : ¬ (x2).toInt = 5 := lv_neT c_8 rfl; have : ¬ (x2).toInt = 6 := lv_neT c_9 rfl; have : ¬ (x2).toInt = 7 := lv_neT c_10 rfl; omega) (by decide) ?_
    exact hok.elim
