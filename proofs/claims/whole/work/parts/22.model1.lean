def fr_X4_thrown (σ : zs_T) : Int32 := σ 35 0
set_option maxHeartbeats 4000000 in
set_option maxRecDepth 100000 in
theorem m_X4_thrown {l : Launch} {D : va_G} {cI cZ : ClassId} {ad : Nat → Nat} (hJ : zs_J 31 ad) (d : Nat) (σ : zs_T) : zs_M l D vwCl (tysM cI cZ) 31 ad (wM cI cZ ad) yX4_thrown (Cond.code yX4_thrown cX4_thrown 1 (some .int) :: zw_G) (zw_rm (d)) [.ref (ad 0)] zs_vi σ (σ, fr_X4_thrown σ ) := by
  refine zs_ofZ (cc := cX4_thrown) (nL := 1) (ret := (some .int)) (lv0 := [(0, .ref (ad 0))]) (by decide) rfl hJ (Nat.le_of_ble_eq_true rfl) rfl ?_
  intro p e s m args below meth c C hr
  unfold fr_X4_thrown
  refine zs_aload_n (k := 0) C dX4_thrown_0 rfl rfl ?_
  refine gM_thrownCode C lkX4_7 dX4_thrown_1 ?_
  exact zs_iret C hr dX4_thrown_4

def fr_X4_in (σ : zs_T) (x0 : Int32) (x1 : Int32) (x2 : Int32) : Int32 := (if x0 < x1 then 0 else (if x2 < x0 then 0 else 1))
set_option maxHeartbeats 4000000 in
set_option maxRecDepth 100000 in
theorem m_X4_in {l : Launch} {D : va_G} {cI cZ : ClassId} {ad : Nat → Nat} (hJ : zs_J 31 ad) (d : Nat) (σ : zs_T) (x0 : Int32) (x1 : Int32) (x2 : Int32) : zs_M l D vwCl (tysM cI cZ) 31 ad (wM cI cZ ad) yX4_in (Cond.code yX4_in cX4_in 3 (some .boolean) :: zw_G) (zw_rm (d)) [.int x0, .int x1, .int x2] zs_vi σ (σ, fr_X4_in σ x0 x1 x2) := by
  refine zs_ofZ (cc := cX4_in) (nL := 3) (ret := (some .boolean)) (lv0 := [(0, .int x0), (1, .int x1), (2, .int x2)]) (by decide) rfl hJ (Nat.le_of_ble_eq_true rfl) rfl ?_
  intro p e s m args below meth c C hr
  unfold fr_X4_in
  refine zs_iload_n (k := 0) C dX4_in_0 rfl rfl ?_
  refine zs_iload_n (k := 1) C dX4_in_1 rfl rfl ?_
  refine zs_icmp_ltP (tgt := 14) C dX4_in_2 (by decide) (fun c_1 => ?_) (fun c_1 => ?_)
  · refine zs_iconst (v := 0) C dX4_in_14 (by decide) ?_
    exact zs_zret C hr rfl dX4_in_15
  · refine zs_iload_n (k := 0) C dX4_in_5 rfl rfl ?_
    refine zs_iload_n (k := 2) C dX4_in_6 rfl rfl ?_
    refine zs_icmp_gtP (tgt := 14) C dX4_in_7 (by decide) (fun c_2 => ?_) (fun c_2 => ?_)
    · refine zs_iconst (v := 0) C dX4_in_14 (by decide) ?_
      exact zs_zret C hr rfl dX4_in_15
    · refine zs_iconst (v := 1) C dX4_in_10 (by decide) ?_
      refine zs_goto (tgt := 15) C dX4_in_11 (by decide) ?_
      exact zs_zret C hr rfl dX4_in_15

def fr_X4_turned_L4 : Nat → zs_T → Int32 → Int32 → Int32 → Int32
  | 0, σ, _, _, _ => 0
  | n + 1, σ, x0, x1, x2 => (if x2 < 8 then (if (x0 >>> (x2 &&& 31)) &&& 1 = 1 then (fr_X4_turned_L4 n σ x0 (x1 + (128 >>> (x2 &&& 31))) (x2 + 1)) else (fr_X4_turned_L4 n σ x0 x1 (x2 + 1))) else x1)
def ok_X4_turned_L4 : Nat → zs_T → Int32 → Int32 → Int32 → Prop
  | 0, _, _, _, _ => False
  | n + 1, σ, x0, x1, x2 => (x2 < 8 → ((x0 >>> (x2 &&& 31)) &&& 1 = 1 → (ok_X4_turned_L4 n σ x0 (x1 + (128 >>> (x2 &&& 31))) (x2 + 1))) ∧ (¬ ((x0 >>> (x2 &&& 31)) &&& 1 = 1) → (ok_X4_turned_L4 n σ x0 x1 (x2 + 1)))) ∧ (¬ (x2 < 8) → True)
set_option maxHeartbeats 4000000 in
set_option maxRecDepth 100000 in
theorem lp_X4_turned_L4 {p : Program} {l : Launch} {e : Env} {s : State} {m : MethodId} {args : Array Value} {below : List Frame} {meth : Method} {c : Code} {D : va_G} {cI cZ : ClassId} {ad : Nat → Nat} (C : zs_C p s m args meth c cX4_turned 3 (Cond.code yX4_turned cX4_turned 3 (some .int) :: zw_G) yX4_turned.cls D vwCl (tysM cI cZ) 31 ad) (hr : meth.sig.returnType = (some .int)) (d : Nat) : ∀ (n : Nat) (σ : zs_T) (x0 : Int32) (x1 : Int32) (x2 : Int32), ok_X4_turned_L4 n σ x0 x1 x2 → zs_Z p l e (zw_rm (d)) s m args below meth c D vwCl 31 ad (wM cI cZ ad) 3 zs_vi (σ, fr_X4_turned_L4 n σ x0 x1 x2) σ 4 [(0, .int x0), (1, .int x1), (2, .int x2)] [] := by
  have hJ := C.2.2.1
  intro n
  induction n with
  | zero => intro σ x0 x1 x2  hok; exact hok.elim
  | succ n ih =>
    intro σ x0 x1 x2  hok
    rw [ok_X4_turned_L4] at hok
    rw [fr_X4_turned_L4]
    refine zs_iload_n (k := 2) C dX4_turned_4 rfl rfl ?_
    refine zs_bipush (v := 8) C dX4_turned_5 (by decide) ?_
    refine zs_icmp_geP (tgt := 33) C dX4_turned_7 (by decide) (fun c_1 => ?_) (fun c_1 => ?_)
    · have hok := hok.1 c_1
      refine zs_iload_n (k := 0) C dX4_turned_10 rfl rfl ?_
      refine zs_iload_n (k := 2) C dX4_turned_11 rfl rfl ?_
      refine zs_ishr C dX4_turned_12 ?_
      refine zs_iconst (v := 1) C dX4_turned_13 (by decide) ?_
      refine zs_iand C dX4_turned_14 ?_
      refine zs_iconst (v := 1) C dX4_turned_15 (by decide) ?_
      refine zs_icmp_neP (tgt := 27) C dX4_turned_16 (by decide) (fun c_2 => ?_) (fun c_2 => ?_)
      · have hok := hok.1 c_2
        refine zs_iload_n (k := 1) C dX4_turned_19 rfl rfl ?_
        refine zs_sipush (v := 128) C dX4_turned_20 (by decide) ?_
        refine zs_iload_n (k := 2) C dX4_turned_23 rfl rfl ?_
        refine zs_ishr C dX4_turned_24 ?_
        refine zs_iadd C dX4_turned_25 ?_
        refine zs_istore_n (lv' := [(1, .int (x1 + (128 >>> (x2 &&& 31)))), (0, .int x0), (2, .int x2)]) C dX4_turned_26 rfl (by decide) rfl ?_
        refine zs_iinc (k := 2) (v := x2 + 1) (lv' := [(2, .int (x2 + 1)), (1, .int (x1 + (128 >>> (x2 &&& 31)))), (0, .int x0)]) C dX4_turned_27 rfl rfl (by decide) rfl ?_
        refine zs_goto (tgt := 4) C dX4_turned_30 (by decide) ?_
        exact zs_sub [2, 1, 0] rfl (ih σ x0 (x1 + (128 >>> (x2 &&& 31))) (x2 + 1)  hok)
      · have hok := hok.2 c_2
        refine zs_iinc (k := 2) (v := x2 + 1) (lv' := [(2, .int (x2 + 1)), (0, .int x0), (1, .int x1)]) C dX4_turned_27 rfl rfl (by decide) rfl ?_
        refine zs_goto (tgt := 4) C dX4_turned_30 (by decide) ?_
        exact zs_sub [1, 2, 0] rfl (ih σ x0 x1 (x2 + 1)  hok)
    · have hok := hok.2 c_1
      refine zs_iload_n (k := 1) C dX4_turned_33 rfl rfl ?_
      exact zs_iret C hr dX4_turned_34
def fr_X4_turned (σ : zs_T) (x0 : Int32) : Int32 := (fr_X4_turned_L4 9 σ x0 0 0)
def ok_X4_turned (σ : zs_T) (x0 : Int32) : Prop := (ok_X4_turned_L4 9 σ x0 0 0)
set_option maxHeartbeats 4000000 in
set_option maxRecDepth 100000 in
theorem m_X4_turned {l : Launch} {D : va_G} {cI cZ : ClassId} {ad : Nat → Nat} (hJ : zs_J 31 ad) (d : Nat) (σ : zs_T) (x0 : Int32) (hok : ok_X4_turned σ x0) : zs_M l D vwCl (tysM cI cZ) 31 ad (wM cI cZ ad) yX4_turned (Cond.code yX4_turned cX4_turned 3 (some .int) :: zw_G) (zw_rm (d)) [.int x0] zs_vi σ (σ, fr_X4_turned σ x0) := by
  refine zs_ofZ (cc := cX4_turned) (nL := 3) (ret := (some .int)) (lv0 := [(0, .int x0)]) (by decide) rfl hJ (Nat.le_of_ble_eq_true rfl) rfl ?_
  intro p e s m args below meth c C hr
  unfold ok_X4_turned at hok
  unfold fr_X4_turned
  refine zs_iconst (v := 0) C dX4_turned_0 (by decide) ?_
  refine zs_istore_n (lv' := [(1, .int 0), (0, .int x0)]) C dX4_turned_1 rfl (by decide) rfl ?_
  refine zs_iconst (v := 0) C dX4_turned_2 (by decide) ?_
  refine zs_istore_n (lv' := [(2, .int 0), (1, .int 0), (0, .int x0)]) C dX4_turned_3 rfl (by decide) rfl ?_
  exact zs_sub [2, 1, 0] rfl (lp_X4_turned_L4 C hr d 9 σ x0 0 0  hok)

def fr_X4_hash (σ : zs_T) (x0 : Int32) : Int32 := (x0 * 167) - (x0 * 167) / 256 * 256
set_option maxHeartbeats 4000000 in
set_option maxRecDepth 100000 in
theorem m_X4_hash {l : Launch} {D : va_G} {cI cZ : ClassId} {ad : Nat → Nat} (hJ : zs_J 31 ad) (d : Nat) (σ : zs_T) (x0 : Int32) : zs_M l D vwCl (tysM cI cZ) 31 ad (wM cI cZ ad) yX4_hash (Cond.code yX4_hash cX4_hash 1 (some .int) :: zw_G) (zw_rm (d)) [.int x0] zs_vi σ (σ, fr_X4_hash σ x0) := by
  refine zs_ofZ (cc := cX4_hash) (nL := 1) (ret := (some .int)) (lv0 := [(0, .int x0)]) (by decide) rfl hJ (Nat.le_of_ble_eq_true rfl) rfl ?_
  intro p e s m args below meth c C hr
  unfold fr_X4_hash
  refine zs_iload_n (k := 0) C dX4_hash_0 rfl rfl ?_
  refine zs_sipush (v := 167) C dX4_hash_1 (by decide) ?_
  refine zs_imul C dX4_hash_4 ?_
  refine zs_sipush (v := 256) C dX4_hash_5 (by decide) ?_
  refine zs_irem C dX4_hash_8 (by decide) ?_
  exact zs_iret C hr dX4_hash_9

def fr_X4_parent_L3 : Nat → zs_T → Int32 → Int32 → Int32
  | 0, σ, _, _ => 0
  | n + 1, σ, x0, x1 => (if x0 < x1 then (fr_X4_parent_L3 n σ x0 (x1 / 2)) else x0 - x1)
def ok_X4_parent_L3 : Nat → zs_T → Int32 → Int32 → Prop
  | 0, _, _, _ => False
  | n + 1, σ, x0, x1 => (x0 < x1 → (ok_X4_parent_L3 n σ x0 (x1 / 2))) ∧ (¬ (x0 < x1) → True)
set_option maxHeartbeats 4000000 in
set_option maxRecDepth 100000 in
theorem lp_X4_parent_L3 {p : Program} {l : Launch} {e : Env} {s : State} {m : MethodId} {args : Array Value} {below : List Frame} {meth : Method} {c : Code} {D : va_G} {cI cZ : ClassId} {ad : Nat → Nat} (C : zs_C p s m args meth c cX4_parent 2 (Cond.code yX4_parent cX4_parent 2 (some .int) :: zw_G) yX4_parent.cls D vwCl (tysM cI cZ) 31 ad) (hr : meth.sig.returnType = (some .int)) (d : Nat) : ∀ (n : Nat) (σ : zs_T) (x0 : Int32) (x1 : Int32), ok_X4_parent_L3 n σ x0 x1 → zs_Z p l e (zw_rm (d)) s m args below meth c D vwCl 31 ad (wM cI cZ ad) 2 zs_vi (σ, fr_X4_parent_L3 n σ x0 x1) σ 3 [(0, .int x0), (1, .int x1)] [] := by
  have hJ := C.2.2.1
  intro n
  induction n with
  | zero => intro σ x0 x1  hok; exact hok.elim
  | succ n ih =>
    intro σ x0 x1  hok
    rw [ok_X4_parent_L3] at hok
    rw [fr_X4_parent_L3]
    refine zs_iload_n (k := 1) C dX4_parent_3 rfl rfl ?_
    refine zs_iload_n (k := 0) C dX4_parent_4 rfl rfl ?_
    refine zs_icmp_leP (tgt := 15) C dX4_parent_5 (by decide) (fun c_1 => ?_) (fun c_1 => ?_)
    · have hok := hok.1 c_1
      refine zs_iload_n (k := 1) C dX4_parent_8 rfl rfl ?_
      refine zs_iconst (v := 2) C dX4_parent_9 (by decide) ?_
      refine zs_idiv C dX4_parent_10 (by decide) ?_
      refine zs_istore_n (lv' := [(1, .int (x1 / 2)), (0, .int x0)]) C dX4_parent_11 rfl (by decide) rfl ?_
      refine zs_goto (tgt := 3) C dX4_parent_12 (by decide) ?_
      exact zs_sub [1, 0] rfl (ih σ x0 (x1 / 2)  hok)
    · have hok := hok.2 c_1
      refine zs_iload_n (k := 0) C dX4_parent_15 rfl rfl ?_
      refine zs_iload_n (k := 1) C dX4_parent_16 rfl rfl ?_
      refine zs_isub C dX4_parent_17 ?_
      exact zs_iret C hr dX4_parent_18
def fr_X4_parent (σ : zs_T) (x0 : Int32) : Int32 := (fr_X4_parent_L3 6 σ x0 8)
def ok_X4_parent (σ : zs_T) (x0 : Int32) : Prop := (ok_X4_parent_L3 6 σ x0 8)
set_option maxHeartbeats 4000000 in
set_option maxRecDepth 100000 in
theorem m_X4_parent {l : Launch} {D : va_G} {cI cZ : ClassId} {ad : Nat → Nat} (hJ : zs_J 31 ad) (d : Nat) (σ : zs_T) (x0 : Int32) (hok : ok_X4_parent σ x0) : zs_M l D vwCl (tysM cI cZ) 31 ad (wM cI cZ ad) yX4_parent (Cond.code yX4_parent cX4_parent 2 (some .int) :: zw_G) (zw_rm (d)) [.int x0] zs_vi σ (σ, fr_X4_parent σ x0) := by
  refine zs_ofZ (cc := cX4_parent) (nL := 2) (ret := (some .int)) (lv0 := [(0, .int x0)]) (by decide) rfl hJ (Nat.le_of_ble_eq_true rfl) rfl ?_
  intro p e s m args below meth c C hr
  unfold ok_X4_parent at hok
  unfold fr_X4_parent
  refine zs_bipush (v := 8) C dX4_parent_0 (by decide) ?_
  refine zs_istore_n (lv' := [(1, .int 8), (0, .int x0)]) C dX4_parent_2 rfl (by decide) rfl ?_
  exact zs_sub [1, 0] rfl (lp_X4_parent_L3 C hr d 6 σ x0 8  hok)

def fr_X4_wanted (σ : zs_T) (x1 : Int32) : Int32 := (if 0 < σ 30 (x1.toNatClampNeg) then 2 * (fr_X4_turned σ (σ 27 ((((16 * x1) + (σ 30 (x1.toNatClampNeg))) - 1).toNatClampNeg))) else (2 * (fr_X4_turned σ (fr_X4_hash σ (σ 12 (x1.toNatClampNeg))))) + 1)
def ok_X4_wanted (σ : zs_T) (x1 : Int32) : Prop := vp_in x1 4 ∧ ((0 < σ 30 (x1.toNatClampNeg) → vp_in x1 4 ∧ (vp_in (((16 * x1) + (σ 30 (x1.toNatClampNeg))) - 1) 64 ∧ (ok_X4_turned σ (σ 27 ((((16 * x1) + (σ 30 (x1.toNatClampNeg))) - 1).toNatClampNeg)) ∧ (True)))) ∧ (¬ (0 < σ 30 (x1.toNatClampNeg)) → vp_in x1 4 ∧ (ok_X4_turned σ (fr_X4_hash σ (σ 12 (x1.toNatClampNeg))) ∧ (True))))
set_option maxHeartbeats 4000000 in
set_option maxRecDepth 100000 in
theorem m_X4_wanted {l : Launch} {D : va_G} {cI cZ : ClassId} {ad : Nat → Nat} (hJ : zs_J 31 ad) (d : Nat) (σ : zs_T) (x1 : Int32) (hok : ok_X4_wanted σ x1) : zs_M l D vwCl (tysM cI cZ) 31 ad (wM cI cZ ad) yX4_wanted (Cond.code yX4_wanted cX4_wanted 2 (some .int) :: zw_G) (zw_rm (d + 1)) [.ref (ad 0), .int x1] zs_vi σ (σ, fr_X4_wanted σ x1) := by
  refine zs_ofZ (cc := cX4_wanted) (nL := 2) (ret := (some .int)) (lv0 := [(0, .ref (ad 0)), (1, .int x1)]) (by decide) rfl hJ (Nat.le_of_ble_eq_true rfl) rfl ?_
  intro p e s m args below meth c C hr
  unfold ok_X4_wanted at hok
  unfold fr_X4_wanted
  refine zs_aload_n (k := 0) C dX4_wanted_0 rfl rfl ?_
  refine gM_depth C lkX4_75 dX4_wanted_1 ?_
  refine zs_iload_n (k := 1) C dX4_wanted_4 rfl rfl ?_
  obtain ⟨h_1, hok⟩ := hok
  refine aM_depth C h_1 dX4_wanted_5 ?_
  refine zs_if_leP (tgt := 33) C dX4_wanted_6 (by decide) (fun c_2 => ?_) (fun c_2 => ?_)
  · have hok := hok.1 c_2
    refine zs_iconst (v := 2) C dX4_wanted_9 (by decide) ?_
    refine zs_aload_n (k := 0) C dX4_wanted_10 rfl rfl ?_
    refine gM_stack C lkX4_72 dX4_wanted_11 ?_
    refine zs_bipush (v := 16) C dX4_wanted_14 (by decide) ?_
    refine zs_iload_n (k := 1) C dX4_wanted_16 rfl rfl ?_
    refine zs_imul C dX4_wanted_17 ?_
    refine zs_aload_n (k := 0) C dX4_wanted_18 rfl rfl ?_
    refine gM_depth C lkX4_75 dX4_wanted_19 ?_
    refine zs_iload_n (k := 1) C dX4_wanted_22 rfl rfl ?_
    obtain ⟨h_3, hok⟩ := hok
    refine aM_depth C h_3 dX4_wanted_23 ?_
    refine zs_iadd C dX4_wanted_24 ?_
    refine zs_iconst (v := 1) C dX4_wanted_25 (by decide) ?_
    refine zs_isub C dX4_wanted_26 ?_
    obtain ⟨h_4, hok⟩ := hok
    refine aM_stack C h_4 dX4_wanted_27 ?_
    obtain ⟨h_5, hok⟩ := hok
    refine zk_callSi (As := [.int (σ 27 ((((16 * x1) + (σ 30 (x1.toNatClampNeg))) - 1).toNatClampNeg))]) (rest := [.int 2]) C pk_X4_turned (by decide) lkX4_114 (m_X4_turned hJ d σ (σ 27 ((((16 * x1) + (σ 30 (x1.toNatClampNeg))) - 1).toNatClampNeg)) h_5) rfl rfl (Nat.le_of_ble_eq_true rfl) dX4_wanted_28 ?_
    refine zs_imul C dX4_wanted_31 ?_
    exact zs_iret C hr dX4_wanted_32
  · have hok := hok.2 c_2
    refine zs_iconst (v := 2) C dX4_wanted_33 (by decide) ?_
    refine zs_aload_n (k := 0) C dX4_wanted_34 rfl rfl ?_
    refine gM_key C lkX4_57 dX4_wanted_35 ?_
    refine zs_iload_n (k := 1) C dX4_wanted_38 rfl rfl ?_
    obtain ⟨h_6, hok⟩ := hok
    refine aM_key C h_6 dX4_wanted_39 ?_
    refine zk_callSi (As := [.int (σ 12 (x1.toNatClampNeg))]) (rest := [.int 2]) C pk_X4_hash (by decide) lkX4_118 (m_X4_hash hJ d σ (σ 12 (x1.toNatClampNeg))) rfl rfl (Nat.le_of_ble_eq_true rfl) dX4_wanted_40 ?_
    obtain ⟨h_7, hok⟩ := hok
    refine zk_callSi (As := [.int (fr_X4_hash σ (σ 12 (x1.toNatClampNeg)))]) (rest := [.int 2]) C pk_X4_turned (by decide) lkX4_114 (m_X4_turned hJ d σ (fr_X4_hash σ (σ 12 (x1.toNatClampNeg))) h_7) rfl rfl (Nat.le_of_ble_eq_true rfl) dX4_wanted_43 ?_
    refine zs_imul C dX4_wanted_46 ?_
    refine zs_iconst (v := 1) C dX4_wanted_47 (by decide) ?_
    refine zs_iadd C dX4_wanted_48 ?_
    exact zs_iret C hr dX4_wanted_49

def fn_X4_reads (σ : zs_T) (x1 : Int32) : zs_O := (if σ 15 (x1.toNatClampNeg) = σ 34 0 then (σ, 1) else ((zs_u σ 15 (x1.toNatClampNeg) (σ 34 0)), 0))
def ok_X4_reads (σ : zs_T) (x1 : Int32) : Prop := vp_in x1 4 ∧ ((σ 15 (x1.toNatClampNeg) = σ 34 0 → True) ∧ (¬ (σ 15 (x1.toNatClampNeg) = σ 34 0) → vp_in x1 4 ∧ (True)))
set_option maxHeartbeats 4000000 in
set_option maxRecDepth 100000 in
theorem m_X4_reads {l : Launch} {D : va_G} {cI cZ : ClassId} {ad : Nat → Nat} (hJ : zs_J 31 ad) (d : Nat) (σ : zs_T) (x1 : Int32) (hok : ok_X4_reads σ x1) : zs_M l D vwCl (tysM cI cZ) 31 ad (wM cI cZ ad) yX4_reads (Cond.code yX4_reads cX4_reads 2 (some .boolean) :: zw_G) (zw_rm (d)) [.ref (ad 0), .int x1] zs_vi σ (fn_X4_reads σ x1) := by
  refine zs_ofZ (cc := cX4_reads) (nL := 2) (ret := (some .boolean)) (lv0 := [(0, .ref (ad 0)), (1, .int x1)]) (by decide) rfl hJ (Nat.le_of_ble_eq_true rfl) rfl ?_
  intro p e s m args below meth c C hr
  unfold ok_X4_reads at hok
  unfold fn_X4_reads
  refine zs_aload_n (k := 0) C dX4_reads_0 rfl rfl ?_
  refine gM_high C lkX4_66 dX4_reads_1 ?_
  refine zs_iload_n (k := 1) C dX4_reads_4 rfl rfl ?_
  obtain ⟨h_1, hok⟩ := hok
  refine aM_high C h_1 dX4_reads_5 ?_
  refine zs_aload_n (k := 0) C dX4_reads_6 rfl rfl ?_
  refine gM_era C lkX4_48 dX4_reads_7 ?_
  refine zs_icmp_ne (tgt := 15) C dX4_reads_10 (by decide) (fun c_2 => ?_) (fun c_2 => ?_)
  · have hok := hok.1 c_2
    refine zs_iconst (v := 1) C dX4_reads_13 (by decide) ?_
    exact zs_zret C hr rfl dX4_reads_14
  · have hok := hok.2 c_2
    refine zs_aload_n (k := 0) C dX4_reads_15 rfl rfl ?_
    refine gM_high C lkX4_66 dX4_reads_16 ?_
    refine zs_iload_n (k := 1) C dX4_reads_19 rfl rfl ?_
    refine zs_aload_n (k := 0) C dX4_reads_20 rfl rfl ?_
    refine gM_era C lkX4_48 dX4_reads_21 ?_
    obtain ⟨h_3, hok⟩ := hok
    refine sM_high C h_3 dX4_reads_24 ?_
    refine zs_iconst (v := 0) C dX4_reads_25 (by decide) ?_
    exact zs_zret C hr rfl dX4_reads_26

def fn_X4_change (σ : zs_T) (x1 : Int32) (x2 : Int32) (x3 : Int32) (x4 : Int32) : zs_O := (if σ 2 (x1.toNatClampNeg) = x2 then (if σ 3 (x1.toNatClampNeg) = 0 then ((zs_u (zs_u σ 2 (x1.toNatClampNeg) x3) 3 (x1.toNatClampNeg) x4), 1) else (σ, 0)) else (σ, 0))
def ok_X4_change (σ : zs_T) (x1 : Int32) (x2 : Int32) (x3 : Int32) (x4 : Int32) : Prop := vp_in x1 64 ∧ ((σ 2 (x1.toNatClampNeg) = x2 → vp_in x1 64 ∧ ((σ 3 (x1.toNatClampNeg) = 0 → vp_in x1 64 ∧ (vp_in x1 64 ∧ (zs_B x4 ∧ (True)))) ∧ (¬ (σ 3 (x1.toNatClampNeg) = 0) → True))) ∧ (¬ (σ 2 (x1.toNatClampNeg) = x2) → True))
set_option maxHeartbeats 4000000 in
set_option maxRecDepth 100000 in
theorem m_X4_change {l : Launch} {D : va_G} {cI cZ : ClassId} {ad : Nat → Nat} (hJ : zs_J 31 ad) (d : Nat) (σ : zs_T) (x1 : Int32) (x2 : Int32) (x3 : Int32) (x4 : Int32) (hok : ok_X4_change σ x1 x2 x3 x4) : zs_M l D vwCl (tysM cI cZ) 31 ad (wM cI cZ ad) yX4_change (Cond.code yX4_change cX4_change 5 (some .boolean) :: zw_G) (zw_rm (d)) [.ref (ad 0), .int x1, .int x2, .int x3, .int x4] zs_vi σ (fn_X4_change σ x1 x2 x3 x4) := by
  refine zs_ofZ (cc := cX4_change) (nL := 5) (ret := (some .boolean)) (lv0 := [(0, .ref (ad 0)), (1, .int x1), (2, .int x2), (3, .int x3), (4, .int x4)]) (by decide) rfl hJ (Nat.le_of_ble_eq_true rfl) rfl ?_
  intro p e s m args below meth c C hr
  unfold ok_X4_change at hok
  unfold fn_X4_change
  refine zs_aload_n (k := 0) C dX4_change_0 rfl rfl ?_
  refine gM_next C lkX4_20 dX4_change_1 ?_
  refine zs_iload_n (k := 1) C dX4_change_4 rfl rfl ?_
  obtain ⟨h_1, hok⟩ := hok
  refine aM_next C h_1 dX4_change_5 ?_
  refine zs_iload_n (k := 2) C dX4_change_6 rfl rfl ?_
  refine zs_icmp_ne (tgt := 19) C dX4_change_7 (by decide) (fun c_2 => ?_) (fun c_2 => ?_)
  · have hok := hok.1 c_2
    refine zs_aload_n (k := 0) C dX4_change_10 rfl rfl ?_
    refine gM_mark C lkX4_23 dX4_change_11 ?_
    refine zs_iload_n (k := 1) C dX4_change_14 rfl rfl ?_
    obtain ⟨h_3, hok⟩ := hok
    refine aM_mark C h_3 dX4_change_15 ?_
    refine zs_if_eq (tgt := 21) C dX4_change_16 (by decide) (fun c_4 => ?_) (fun c_4 => ?_)
    · have hok := hok.1 c_4
      refine zs_aload_n (k := 0) C dX4_change_21 rfl rfl ?_
      refine gM_next C lkX4_20 dX4_change_22 ?_
      refine zs_iload_n (k := 1) C dX4_change_25 rfl rfl ?_
      refine zs_iload_n (k := 3) C dX4_change_26 rfl rfl ?_
      obtain ⟨h_5, hok⟩ := hok
      refine sM_next C h_5 dX4_change_27 ?_
      refine zs_aload_n (k := 0) C dX4_change_28 rfl rfl ?_
      refine gM_mark C lkX4_23 dX4_change_29 ?_
      refine zs_iload_n (k := 1) C dX4_change_32 rfl rfl ?_
      refine zs_iload (k := 4) C dX4_change_33 rfl ?_
      obtain ⟨h_6, hok⟩ := hok
      obtain ⟨h_7, hok⟩ := hok
      refine sM_mark C h_6 h_7 dX4_change_35 ?_
      refine zs_iconst (v := 1) C dX4_change_36 (by decide) ?_
      exact zs_zret C hr rfl dX4_change_37
    · have hok := hok.2 c_4
      refine zs_iconst (v := 0) C dX4_change_19 (by decide) ?_
      exact zs_zret C hr rfl dX4_change_20
  · have hok := hok.2 c_2
    refine zs_iconst (v := 0) C dX4_change_19 (by decide) ?_
    exact zs_zret C hr rfl dX4_change_20

def fn_X4_retire (σ : zs_T) (x1 : Int32) (x2 : Int32) : zs_O := ((zs_u (zs_u (zs_u (zs_u (zs_u σ 0 (x2.toNatClampNeg) 2) 7 (x2.toNatClampNeg) ((zs_u σ 0 (x2.toNatClampNeg) 2) 34 0)) 34 0 (((zs_u (zs_u σ 0 (x2.toNatClampNeg) 2) 7 (x2.toNatClampNeg) ((zs_u σ 0 (x2.toNatClampNeg) 2) 34 0)) 34 0) + 1)) 28 (((64 * x1) + ((zs_u (zs_u (zs_u σ 0 (x2.toNatClampNeg) 2) 7 (x2.toNatClampNeg) ((zs_u σ 0 (x2.toNatClampNeg) 2) 34 0)) 34 0 (((zs_u (zs_u σ 0 (x2.toNatClampNeg) 2) 7 (x2.toNatClampNeg) ((zs_u σ 0 (x2.toNatClampNeg) 2) 34 0)) 34 0) + 1)) 29 (x1.toNatClampNeg))).toNatClampNeg) x2) 29 (x1.toNatClampNeg) (((zs_u (zs_u (zs_u (zs_u σ 0 (x2.toNatClampNeg) 2) 7 (x2.toNatClampNeg) ((zs_u σ 0 (x2.toNatClampNeg) 2) 34 0)) 34 0 (((zs_u (zs_u σ 0 (x2.toNatClampNeg) 2) 7 (x2.toNatClampNeg) ((zs_u σ 0 (x2.toNatClampNeg) 2) 34 0)) 34 0) + 1)) 28 (((64 * x1) + ((zs_u (zs_u (zs_u σ 0 (x2.toNatClampNeg) 2) 7 (x2.toNatClampNeg) ((zs_u σ 0 (x2.toNatClampNeg) 2) 34 0)) 34 0 (((zs_u (zs_u σ 0 (x2.toNatClampNeg) 2) 7 (x2.toNatClampNeg) ((zs_u σ 0 (x2.toNatClampNeg) 2) 34 0)) 34 0) + 1)) 29 (x1.toNatClampNeg))).toNatClampNeg) x2) 29 (x1.toNatClampNeg)) + 1)), 0)
def ok_X4_retire (σ : zs_T) (x1 : Int32) (x2 : Int32) : Prop := vp_in x2 64 ∧ (vp_in x2 64 ∧ (vp_in x1 4 ∧ (vp_in ((64 * x1) + ((zs_u (zs_u (zs_u σ 0 (x2.toNatClampNeg) 2) 7 (x2.toNatClampNeg) ((zs_u σ 0 (x2.toNatClampNeg) 2) 34 0)) 34 0 (((zs_u (zs_u σ 0 (x2.toNatClampNeg) 2) 7 (x2.toNatClampNeg) ((zs_u σ 0 (x2.toNatClampNeg) 2) 34 0)) 34 0) + 1)) 29 (x1.toNatClampNeg))) 256 ∧ (vp_in x1 4 ∧ (vp_in x1 4 ∧ (True))))))
set_option maxHeartbeats 4000000 in
set_option maxRecDepth 100000 in
theorem m_X4_retire {l : Launch} {D : va_G} {cI cZ : ClassId} {ad : Nat → Nat} (hJ : zs_J 31 ad) (d : Nat) (σ : zs_T) (x1 : Int32) (x2 : Int32) (hok : ok_X4_retire σ x1 x2) : zs_M l D vwCl (tysM cI cZ) 31 ad (wM cI cZ ad) yX4_retire (Cond.code yX4_retire cX4_retire 3 none :: zw_G) (zw_rm (d)) [.ref (ad 0), .int x1, .int x2] zs_vv σ (fn_X4_retire σ x1 x2) := by
  refine zs_ofZ (cc := cX4_retire) (nL := 3) (ret := none) (lv0 := [(0, .ref (ad 0)), (1, .int x1), (2, .int x2)]) (by decide) rfl hJ (Nat.le_of_ble_eq_true rfl) rfl ?_
  intro p e s m args below meth c C hr
  unfold ok_X4_retire at hok
  unfold fn_X4_retire
  refine zs_aload_n (k := 0) C dX4_retire_0 rfl rfl ?_
  refine gM_sort C lkX4_13 dX4_retire_1 ?_
  refine zs_iload_n (k := 2) C dX4_retire_4 rfl rfl ?_
  refine zs_iconst (v := 2) C dX4_retire_5 (by decide) ?_
  obtain ⟨h_1, hok⟩ := hok
  refine sM_sort C h_1 dX4_retire_6 ?_
  refine zs_aload_n (k := 0) C dX4_retire_7 rfl rfl ?_
  refine gM_died C lkX4_36 dX4_retire_8 ?_
  refine zs_iload_n (k := 2) C dX4_retire_11 rfl rfl ?_
  refine zs_aload_n (k := 0) C dX4_retire_12 rfl rfl ?_
  refine gM_era C lkX4_48 dX4_retire_13 ?_
  obtain ⟨h_2, hok⟩ := hok
  refine sM_died C h_2 dX4_retire_16 ?_
  refine zs_aload_n (k := 0) C dX4_retire_17 rfl rfl ?_
  refine zs_dup C dX4_retire_18 rfl ?_
  refine gM_era C lkX4_48 dX4_retire_19 ?_
  refine zs_iconst (v := 1) C dX4_retire_22 (by decide) ?_
  refine zs_iadd C dX4_retire_23 ?_
  refine pM_era C lkX4_48 dX4_retire_24 ?_
  refine zs_aload_n (k := 0) C dX4_retire_27 rfl rfl ?_
  refine gM_row C lkX4_105 dX4_retire_28 ?_
  refine zs_bipush (v := 64) C dX4_retire_31 (by decide) ?_
  refine zs_iload_n (k := 1) C dX4_retire_33 rfl rfl ?_
  refine zs_imul C dX4_retire_34 ?_
  refine zs_aload_n (k := 0) C dX4_retire_35 rfl rfl ?_
  refine gM_rows C lkX4_108 dX4_retire_36 ?_
  refine zs_iload_n (k := 1) C dX4_retire_39 rfl rfl ?_
  obtain ⟨h_3, hok⟩ := hok
  refine aM_rows C h_3 dX4_retire_40 ?_
  refine zs_iadd C dX4_retire_41 ?_
  refine zs_iload_n (k := 2) C dX4_retire_42 rfl rfl ?_
  obtain ⟨h_4, hok⟩ := hok
  refine sM_row C h_4 dX4_retire_43 ?_
  refine zs_aload_n (k := 0) C dX4_retire_44 rfl rfl ?_
  refine gM_rows C lkX4_108 dX4_retire_45 ?_
  refine zs_iload_n (k := 1) C dX4_retire_48 rfl rfl ?_
  refine zs_dup2 C dX4_retire_49 rfl rfl ?_
  obtain ⟨h_5, hok⟩ := hok
  refine aM_rows C h_5 dX4_retire_50 ?_
  refine zs_iconst (v := 1) C dX4_retire_51 (by decide) ?_
  refine zs_iadd C dX4_retire_52 ?_
  obtain ⟨h_6, hok⟩ := hok
  refine sM_rows C h_6 dX4_retire_53 ?_
  exact zs_vret C hr dX4_retire_54

def fn_X4_ends (σ : zs_T) (x1 : Int32) (x2 : Int32) : zs_O := (if (zs_u σ 26 (x1.toNatClampNeg) x2) 22 (x1.toNatClampNeg) < 0 then ((zs_u (zs_u (zs_u (zs_u (zs_u (zs_u σ 26 (x1.toNatClampNeg) x2) 22 (x1.toNatClampNeg) (-1)) 14 (x1.toNatClampNeg) 0) 15 (x1.toNatClampNeg) 0) 10 (x1.toNatClampNeg) 0) 30 (x1.toNatClampNeg) 0), 0) else ((zs_u (zs_u (zs_u (zs_u (zs_u (zs_u (zs_u σ 26 (x1.toNatClampNeg) x2) 0 (((zs_u σ 26 (x1.toNatClampNeg) x2) 22 (x1.toNatClampNeg)).toNatClampNeg) 0) 22 (x1.toNatClampNeg) (-1)) 14 (x1.toNatClampNeg) 0) 15 (x1.toNatClampNeg) 0) 10 (x1.toNatClampNeg) 0) 30 (x1.toNatClampNeg) 0), 0))
def ok_X4_ends (σ : zs_T) (x1 : Int32) (x2 : Int32) : Prop := vp_in x1 4 ∧ (vp_in x1 4 ∧ (((zs_u σ 26 (x1.toNatClampNeg) x2) 22 (x1.toNatClampNeg) < 0 → vp_in x1 4 ∧ (vp_in x1 4 ∧ (vp_in x1 4 ∧ (vp_in x1 4 ∧ (vp_in x1 4 ∧ (True)))))) ∧ (¬ ((zs_u σ 26 (x1.toNatClampNeg) x2) 22 (x1.toNatClampNeg) < 0) → vp_in x1 4 ∧ (vp_in ((zs_u σ 26 (x1.toNatClampNeg) x2) 22 (x1.toNatClampNeg)) 64 ∧ (vp_in x1 4 ∧ (vp_in x1 4 ∧ (vp_in x1 4 ∧ (vp_in x1 4 ∧ (vp_in x1 4 ∧ (True))))))))))
set_option maxHeartbeats 4000000 in
set_option maxRecDepth 100000 in
theorem m_X4_ends {l : Launch} {D : va_G} {cI cZ : ClassId} {ad : Nat → Nat} (hJ : zs_J 31 ad) (d : Nat) (σ : zs_T) (x1 : Int32) (x2 : Int32) (hok : ok_X4_ends σ x1 x2) : zs_M l D vwCl (tysM cI cZ) 31 ad (wM cI cZ ad) yX4_ends (Cond.code yX4_ends cX4_ends 3 none :: zw_G) (zw_rm (d)) [.ref (ad 0), .int x1, .int x2] zs_vv σ (fn_X4_ends σ x1 x2) := by
  refine zs_ofZ (cc := cX4_ends) (nL := 3) (ret := none) (lv0 := [(0, .ref (ad 0)), (1, .int x1), (2, .int x2)]) (by decide) rfl hJ (Nat.le_of_ble_eq_true rfl) rfl ?_
  intro p e s m args below meth c C hr
  unfold ok_X4_ends at hok
  unfold fn_X4_ends
  refine zs_aload_n (k := 0) C dX4_ends_0 rfl rfl ?_
  refine gM_results C lkX4_111 dX4_ends_1 ?_
  refine zs_iload_n (k := 1) C dX4_ends_4 rfl rfl ?_
  refine zs_iload_n (k := 2) C dX4_ends_5 rfl rfl ?_
  obtain ⟨h_1, hok⟩ := hok
  refine sM_results C h_1 dX4_ends_6 ?_
  refine zs_aload_n (k := 0) C dX4_ends_7 rfl rfl ?_
  refine gM_own C lkX4_93 dX4_ends_8 ?_
  refine zs_iload_n (k := 1) C dX4_ends_11 rfl rfl ?_
  obtain ⟨h_2, hok⟩ := hok
  refine aM_own C h_2 dX4_ends_12 ?_
  refine zs_if_lt (tgt := 28) C dX4_ends_13 (by decide) (fun c_3 => ?_) (fun c_3 => ?_)
  · have hok := hok.1 c_3
    refine zs_aload_n (k := 0) C dX4_ends_28 rfl rfl ?_
    refine gM_own C lkX4_93 dX4_ends_29 ?_
    refine zs_iload_n (k := 1) C dX4_ends_32 rfl rfl ?_
    refine zs_iconst (v := (-1)) C dX4_ends_33 (by decide) ?_
    obtain ⟨h_4, hok⟩ := hok
    refine sM_own C h_4 dX4_ends_34 ?_
    refine zs_aload_n (k := 0) C dX4_ends_35 rfl rfl ?_
    refine gM_low C lkX4_63 dX4_ends_36 ?_
    refine zs_iload_n (k := 1) C dX4_ends_39 rfl rfl ?_
    refine zs_iconst (v := 0) C dX4_ends_40 (by decide) ?_
    obtain ⟨h_5, hok⟩ := hok
    refine sM_low C h_5 dX4_ends_41 ?_
    refine zs_aload_n (k := 0) C dX4_ends_42 rfl rfl ?_
    refine gM_high C lkX4_66 dX4_ends_43 ?_
    refine zs_iload_n (k := 1) C dX4_ends_46 rfl rfl ?_
    refine zs_iconst (v := 0) C dX4_ends_47 (by decide) ?_
    obtain ⟨h_6, hok⟩ := hok
    refine sM_high C h_6 dX4_ends_48 ?_
    refine zs_aload_n (k := 0) C dX4_ends_49 rfl rfl ?_
    refine gM_place C lkX4_51 dX4_ends_50 ?_
    refine zs_iload_n (k := 1) C dX4_ends_53 rfl rfl ?_
    refine zs_iconst (v := 0) C dX4_ends_54 (by decide) ?_
    obtain ⟨h_7, hok⟩ := hok
    refine sM_place C h_7 dX4_ends_55 ?_
    refine zs_aload_n (k := 0) C dX4_ends_56 rfl rfl ?_
    refine gM_depth C lkX4_75 dX4_ends_57 ?_
    refine zs_iload_n (k := 1) C dX4_ends_60 rfl rfl ?_
    refine zs_iconst (v := 0) C dX4_ends_61 (by decide) ?_
    obtain ⟨h_8, hok⟩ := hok
    refine sM_depth C h_8 dX4_ends_62 ?_
    exact zs_vret C hr dX4_ends_63
  · have hok := hok.2 c_3
    refine zs_aload_n (k := 0) C dX4_ends_16 rfl rfl ?_
    refine gM_sort C lkX4_13 dX4_ends_17 ?_
    refine zs_aload_n (k := 0) C dX4_ends_20 rfl rfl ?_
    refine gM_own C lkX4_93 dX4_ends_21 ?_
    refine zs_iload_n (k := 1) C dX4_ends_24 rfl rfl ?_
    obtain ⟨h_9, hok⟩ := hok
    refine aM_own C h_9 dX4_ends_25 ?_
    refine zs_iconst (v := 0) C dX4_ends_26 (by decide) ?_
    obtain ⟨h_10, hok⟩ := hok
    refine sM_sort C h_10 dX4_ends_27 ?_
    refine zs_aload_n (k := 0) C dX4_ends_28 rfl rfl ?_
    refine gM_own C lkX4_93 dX4_ends_29 ?_
    refine zs_iload_n (k := 1) C dX4_ends_32 rfl rfl ?_
    refine zs_iconst (v := (-1)) C dX4_ends_33 (by decide) ?_
    obtain ⟨h_11, hok⟩ := hok
    refine sM_own C h_11 dX4_ends_34 ?_
    refine zs_aload_n (k := 0) C dX4_ends_35 rfl rfl ?_
    refine gM_low C lkX4_63 dX4_ends_36 ?_
    refine zs_iload_n (k := 1) C dX4_ends_39 rfl rfl ?_
    refine zs_iconst (v := 0) C dX4_ends_40 (by decide) ?_
    obtain ⟨h_12, hok⟩ := hok
    refine sM_low C h_12 dX4_ends_41 ?_
    refine zs_aload_n (k := 0) C dX4_ends_42 rfl rfl ?_
    refine gM_high C lkX4_66 dX4_ends_43 ?_
    refine zs_iload_n (k := 1) C dX4_ends_46 rfl rfl ?_
    refine zs_iconst (v := 0) C dX4_ends_47 (by decide) ?_
    obtain ⟨h_13, hok⟩ := hok
    refine sM_high C h_13 dX4_ends_48 ?_
    refine zs_aload_n (k := 0) C dX4_ends_49 rfl rfl ?_
    refine gM_place C lkX4_51 dX4_ends_50 ?_
    refine zs_iload_n (k := 1) C dX4_ends_53 rfl rfl ?_
    refine zs_iconst (v := 0) C dX4_ends_54 (by decide) ?_
    obtain ⟨h_14, hok⟩ := hok
    refine sM_place C h_14 dX4_ends_55 ?_
    refine zs_aload_n (k := 0) C dX4_ends_56 rfl rfl ?_
    refine gM_depth C lkX4_75 dX4_ends_57 ?_
    refine zs_iload_n (k := 1) C dX4_ends_60 rfl rfl ?_
    refine zs_iconst (v := 0) C dX4_ends_61 (by decide) ?_
    obtain ⟨h_15, hok⟩ := hok
    refine sM_depth C h_15 dX4_ends_62 ?_
    exact zs_vret C hr dX4_ends_63

def fn_X4_over (σ : zs_T) (x1 : Int32) (x2 : Int32) : zs_O := (if 0 < σ 30 (x1.toNatClampNeg) then (if x2 = 0 then ((zs_u σ 10 (x1.toNatClampNeg) 7), 0) else ((zs_u (zs_u (zs_u σ 10 (x1.toNatClampNeg) 7) 10 (x1.toNatClampNeg) 9) 23 (x1.toNatClampNeg) ((zs_u (zs_u σ 10 (x1.toNatClampNeg) 7) 10 (x1.toNatClampNeg) 9) 19 (x1.toNatClampNeg))), 0)) else (if σ 24 (x1.toNatClampNeg) = 0 then (if σ 11 (x1.toNatClampNeg) = 0 then (if x2 = 0 then ((fn_X4_ends σ x1 (-1)).1, 0) else ((fn_X4_ends σ x1 (σ 5 ((σ 19 (x1.toNatClampNeg)).toNatClampNeg))).1, 0)) else (if σ 11 (x1.toNatClampNeg) = 1 then (if x2 = 0 then ((zs_u σ 10 (x1.toNatClampNeg) 7), 0) else ((fn_X4_ends σ x1 0).1, 0)) else (if x2 = 0 then ((fn_X4_ends σ x1 (-1)).1, 0) else ((zs_u σ 10 (x1.toNatClampNeg) 10), 0)))) else ((zs_u σ 10 (x1.toNatClampNeg) 12), 0)))
def ok_X4_over (σ : zs_T) (x1 : Int32) (x2 : Int32) : Prop := vp_in x1 4 ∧ ((0 < σ 30 (x1.toNatClampNeg) → vp_in x1 4 ∧ ((x2 = 0 → True) ∧ (¬ (x2 = 0) → vp_in x1 4 ∧ (vp_in x1 4 ∧ (vp_in x1 4 ∧ (True)))))) ∧ (¬ (0 < σ 30 (x1.toNatClampNeg)) → vp_in x1 4 ∧ ((σ 24 (x1.toNatClampNeg) = 0 → vp_in x1 4 ∧ ((σ 11 (x1.toNatClampNeg) = 0 → (x2 = 0 → ok_X4_ends σ x1 (-1) ∧ (True)) ∧ (¬ (x2 = 0) → vp_in x1 4 ∧ (vp_in (σ 19 (x1.toNatClampNeg)) 64 ∧ (ok_X4_ends σ x1 (σ 5 ((σ 19 (x1.toNatClampNeg)).toNatClampNeg)) ∧ (True))))) ∧ (¬ (σ 11 (x1.toNatClampNeg) = 0) → vp_in x1 4 ∧ ((σ 11 (x1.toNatClampNeg) = 1 → (x2 = 0 → vp_in x1 4 ∧ (True)) ∧ (¬ (x2 = 0) → ok_X4_ends σ x1 0 ∧ (True))) ∧ (¬ (σ 11 (x1.toNatClampNeg) = 1) → (x2 = 0 → ok_X4_ends σ x1 (-1) ∧ (True)) ∧ (¬ (x2 = 0) → vp_in x1 4 ∧ (True))))))) ∧ (¬ (σ 24 (x1.toNatClampNeg) = 0) → vp_in x1 4 ∧ (True)))))
set_option maxHeartbeats 4000000 in
set_option maxRecDepth 100000 in
theorem m_X4_over {l : Launch} {D : va_G} {cI cZ : ClassId} {ad : Nat → Nat} (hJ : zs_J 31 ad) (d : Nat) (σ : zs_T) (x1 : Int32) (x2 : Int32) (hok : ok_X4_over σ x1 x2) : zs_M l D vwCl (tysM cI cZ) 31 ad (wM cI cZ ad) yX4_over (Cond.code yX4_over cX4_over 3 none :: zw_G) (zw_rm (d + 1)) [.ref (ad 0), .int x1, .int x2] zs_vv σ (fn_X4_over σ x1 x2) := by
  refine zs_ofZ (cc := cX4_over) (nL := 3) (ret := none) (lv0 := [(0, .ref (ad 0)), (1, .int x1), (2, .int x2)]) (by decide) rfl hJ (Nat.le_of_ble_eq_true rfl) rfl ?_
  intro p e s m args below meth c C hr
  unfold ok_X4_over at hok
  unfold fn_X4_over
  refine zs_aload_n (k := 0) C dX4_over_0 rfl rfl ?_
  refine gM_depth C lkX4_75 dX4_over_1 ?_
  refine zs_iload_n (k := 1) C dX4_over_4 rfl rfl ?_
  obtain ⟨h_1, hok⟩ := hok
  refine aM_depth C h_1 dX4_over_5 ?_
  refine zs_if_le (tgt := 44) C dX4_over_6 (by decide) (fun c_2 => ?_) (fun c_2 => ?_)
  · have hok := hok.1 c_2
    refine zs_aload_n (k := 0) C dX4_over_9 rfl rfl ?_
    refine gM_place C lkX4_51 dX4_over_10 ?_
    refine zs_iload_n (k := 1) C dX4_over_13 rfl rfl ?_
    refine zs_bipush (v := 7) C dX4_over_14 (by decide) ?_
    obtain ⟨h_3, hok⟩ := hok
    refine sM_place C h_3 dX4_over_16 ?_
    refine zs_iload_n (k := 2) C dX4_over_17 rfl rfl ?_
    refine zs_if_eq (tgt := 160) C dX4_over_18 (by decide) (fun c_4 => ?_) (fun c_4 => ?_)
    · have hok := hok.1 c_4
      exact zs_vret C hr dX4_over_160
    · have hok := hok.2 c_4
      refine zs_aload_n (k := 0) C dX4_over_21 rfl rfl ?_
      refine gM_place C lkX4_51 dX4_over_22 ?_
      refine zs_iload_n (k := 1) C dX4_over_25 rfl rfl ?_
      refine zs_bipush (v := 9) C dX4_over_26 (by decide) ?_
      obtain ⟨h_5, hok⟩ := hok
      refine sM_place C h_5 dX4_over_28 ?_
      refine zs_aload_n (k := 0) C dX4_over_29 rfl rfl ?_
      refine gM_given C lkX4_96 dX4_over_30 ?_
      refine zs_iload_n (k := 1) C dX4_over_33 rfl rfl ?_
      refine zs_aload_n (k := 0) C dX4_over_34 rfl rfl ?_
      refine gM_cur C lkX4_84 dX4_over_35 ?_
      refine zs_iload_n (k := 1) C dX4_over_38 rfl rfl ?_
      obtain ⟨h_6, hok⟩ := hok
      refine aM_cur C h_6 dX4_over_39 ?_
      obtain ⟨h_7, hok⟩ := hok
      refine sM_given C h_7 dX4_over_40 ?_
      refine zs_goto (tgt := 160) C dX4_over_41 (by decide) ?_
      exact zs_vret C hr dX4_over_160
  · have hok := hok.2 c_2
    refine zs_aload_n (k := 0) C dX4_over_44 rfl rfl ?_
    refine gM_cleans C lkX4_99 dX4_over_45 ?_
    refine zs_iload_n (k := 1) C dX4_over_48 rfl rfl ?_
    obtain ⟨h_8, hok⟩ := hok
    refine aM_cleans C h_8 dX4_over_49 ?_
    refine zs_if_eq (tgt := 64) C dX4_over_50 (by decide) (fun c_9 => ?_) (fun c_9 => ?_)
    · have hok := hok.1 c_9
      refine zs_aload_n (k := 0) C dX4_over_64 rfl rfl ?_
      refine gM_operation C lkX4_54 dX4_over_65 ?_
      refine zs_iload_n (k := 1) C dX4_over_68 rfl rfl ?_
      obtain ⟨h_10, hok⟩ := hok
      refine aM_operation C h_10 dX4_over_69 ?_
      refine zs_if_ne (tgt := 105) C dX4_over_70 (by decide) (fun c_11 => ?_) (fun c_11 => ?_)
      · have hok := hok.1 c_11
        refine zs_iload_n (k := 2) C dX4_over_73 rfl rfl ?_
        refine zs_if_eq (tgt := 96) C dX4_over_74 (by decide) (fun c_12 => ?_) (fun c_12 => ?_)
        · have hok := hok.1 c_12
          refine zs_aload_n (k := 0) C dX4_over_96 rfl rfl ?_
          refine zs_iload_n (k := 1) C dX4_over_97 rfl rfl ?_
          refine zs_iconst (v := (-1)) C dX4_over_98 (by decide) ?_
          obtain ⟨h_13, hok⟩ := hok
          refine zk_callVv (As := [.int x1, .int (-1)]) (rest := []) C pk_X4_ends (by decide) lkX4_126 (m_X4_ends hJ d σ x1 (-1) h_13) zm_recv rfl rfl rfl (Nat.le_of_ble_eq_true rfl) dX4_over_99 ?_
          refine zs_goto (tgt := 160) C dX4_over_102 (by decide) ?_
          exact zs_vret C hr dX4_over_160
        · have hok := hok.2 c_12
          refine zs_aload_n (k := 0) C dX4_over_77 rfl rfl ?_
          refine zs_iload_n (k := 1) C dX4_over_78 rfl rfl ?_
          refine zs_aload_n (k := 0) C dX4_over_79 rfl rfl ?_
          refine gM_valueOf C lkX4_30 dX4_over_80 ?_
          refine zs_aload_n (k := 0) C dX4_over_83 rfl rfl ?_
          refine gM_cur C lkX4_84 dX4_over_84 ?_
          refine zs_iload_n (k := 1) C dX4_over_87 rfl rfl ?_
          obtain ⟨h_14, hok⟩ := hok
          refine aM_cur C h_14 dX4_over_88 ?_
          obtain ⟨h_15, hok⟩ := hok
          refine aM_valueOf C h_15 dX4_over_89 ?_
          obtain ⟨h_16, hok⟩ := hok
          refine zk_callVv (As := [.int x1, .int (σ 5 ((σ 19 (x1.toNatClampNeg)).toNatClampNeg))]) (rest := []) C pk_X4_ends (by decide) lkX4_126 (m_X4_ends hJ d σ x1 (σ 5 ((σ 19 (x1.toNatClampNeg)).toNatClampNeg)) h_16) zm_recv rfl rfl rfl (Nat.le_of_ble_eq_true rfl) dX4_over_90 ?_
          refine zs_goto (tgt := 160) C dX4_over_93 (by decide) ?_
          exact zs_vret C hr dX4_over_160
      · have hok := hok.2 c_11
        refine zs_aload_n (k := 0) C dX4_over_105 rfl rfl ?_
        refine gM_operation C lkX4_54 dX4_over_106 ?_
        refine zs_iload_n (k := 1) C dX4_over_109 rfl rfl ?_
        obtain ⟨h_17, hok⟩ := hok
        refine aM_operation C h_17 dX4_over_110 ?_
        refine zs_iconst (v := 1) C dX4_over_111 (by decide) ?_
        refine zs_icmp_ne (tgt := 139) C dX4_over_112 (by decide) (fun c_18 => ?_) (fun c_18 => ?_)
        · have hok := hok.1 c_18
          refine zs_iload_n (k := 2) C dX4_over_115 rfl rfl ?_
          refine zs_if_eq (tgt := 128) C dX4_over_116 (by decide) (fun c_19 => ?_) (fun c_19 => ?_)
          · have hok := hok.1 c_19
            refine zs_aload_n (k := 0) C dX4_over_128 rfl rfl ?_
            refine gM_place C lkX4_51 dX4_over_129 ?_
            refine zs_iload_n (k := 1) C dX4_over_132 rfl rfl ?_
            refine zs_bipush (v := 7) C dX4_over_133 (by decide) ?_
            obtain ⟨h_20, hok⟩ := hok
            refine sM_place C h_20 dX4_over_135 ?_
            refine zs_goto (tgt := 160) C dX4_over_136 (by decide) ?_
            exact zs_vret C hr dX4_over_160
          · have hok := hok.2 c_19
            refine zs_aload_n (k := 0) C dX4_over_119 rfl rfl ?_
            refine zs_iload_n (k := 1) C dX4_over_120 rfl rfl ?_
            refine zs_iconst (v := 0) C dX4_over_121 (by decide) ?_
            obtain ⟨h_21, hok⟩ := hok
            refine zk_callVv (As := [.int x1, .int 0]) (rest := []) C pk_X4_ends (by decide) lkX4_126 (m_X4_ends hJ d σ x1 0 h_21) zm_recv rfl rfl rfl (Nat.le_of_ble_eq_true rfl) dX4_over_122 ?_
            refine zs_goto (tgt := 160) C dX4_over_125 (by decide) ?_
            exact zs_vret C hr dX4_over_160
        · have hok := hok.2 c_18
          refine zs_iload_n (k := 2) C dX4_over_139 rfl rfl ?_
          refine zs_if_eq (tgt := 154) C dX4_over_140 (by decide) (fun c_22 => ?_) (fun c_22 => ?_)
          · have hok := hok.1 c_22
            refine zs_aload_n (k := 0) C dX4_over_154 rfl rfl ?_
            refine zs_iload_n (k := 1) C dX4_over_155 rfl rfl ?_
            refine zs_iconst (v := (-1)) C dX4_over_156 (by decide) ?_
            obtain ⟨h_23, hok⟩ := hok
            refine zk_callVv (As := [.int x1, .int (-1)]) (rest := []) C pk_X4_ends (by decide) lkX4_126 (m_X4_ends hJ d σ x1 (-1) h_23) zm_recv rfl rfl rfl (Nat.le_of_ble_eq_true rfl) dX4_over_157 ?_
            exact zs_vret C hr dX4_over_160
          · have hok := hok.2 c_22
            refine zs_aload_n (k := 0) C dX4_over_143 rfl rfl ?_
            refine gM_place C lkX4_51 dX4_over_144 ?_
            refine zs_iload_n (k := 1) C dX4_over_147 rfl rfl ?_
            refine zs_bipush (v := 10) C dX4_over_148 (by decide) ?_
            obtain ⟨h_24, hok⟩ := hok
            refine sM_place C h_24 dX4_over_150 ?_
            refine zs_goto (tgt := 160) C dX4_over_151 (by decide) ?_
            exact zs_vret C hr dX4_over_160
    · have hok := hok.2 c_9
      refine zs_aload_n (k := 0) C dX4_over_53 rfl rfl ?_
      refine gM_place C lkX4_51 dX4_over_54 ?_
      refine zs_iload_n (k := 1) C dX4_over_57 rfl rfl ?_
      refine zs_bipush (v := 12) C dX4_over_58 (by decide) ?_
      obtain ⟨h_25, hok⟩ := hok
      refine sM_place C h_25 dX4_over_60 ?_
      refine zs_goto (tgt := 160) C dX4_over_61 (by decide) ?_
      exact zs_vret C hr dX4_over_160

def fn_X4_look (σ : zs_T) (x1 : Int32) : zs_O := (if σ 2 ((σ 18 (x1.toNatClampNeg)).toNatClampNeg) = σ 19 (x1.toNatClampNeg) then (if σ 3 ((σ 18 (x1.toNatClampNeg)).toNatClampNeg) = 0 then (if σ 21 (x1.toNatClampNeg) = 0 then (if σ 1 ((σ 19 (x1.toNatClampNeg)).toNatClampNeg) < fr_X4_wanted σ x1 then ((zs_u (zs_u (zs_u σ 18 (x1.toNatClampNeg) (σ 19 (x1.toNatClampNeg))) 19 (x1.toNatClampNeg) ((zs_u σ 18 (x1.toNatClampNeg) (σ 19 (x1.toNatClampNeg))) 20 (x1.toNatClampNeg))) 10 (x1.toNatClampNeg) 4), 0) else (if σ 1 ((σ 19 (x1.toNatClampNeg)).toNatClampNeg) = fr_X4_wanted σ x1 then ((fn_X4_over σ x1 1).1, 0) else ((fn_X4_over σ x1 0).1, 0))) else ((zs_u σ 10 (x1.toNatClampNeg) 6), 0)) else ((zs_u σ 10 (x1.toNatClampNeg) 3), 0)) else ((zs_u σ 10 (x1.toNatClampNeg) 3), 0))
def ok_X4_look (σ : zs_T) (x1 : Int32) : Prop := vp_in x1 4 ∧ (vp_in x1 4 ∧ (vp_in (σ 18 (x1.toNatClampNeg)) 64 ∧ ((σ 2 ((σ 18 (x1.toNatClampNeg)).toNatClampNeg) = σ 19 (x1.toNatClampNeg) → vp_in x1 4 ∧ (vp_in (σ 18 (x1.toNatClampNeg)) 64 ∧ ((σ 3 ((σ 18 (x1.toNatClampNeg)).toNatClampNeg) = 0 → vp_in x1 4 ∧ ((σ 21 (x1.toNatClampNeg) = 0 → vp_in (σ 19 (x1.toNatClampNeg)) 64 ∧ (ok_X4_wanted σ x1 ∧ ((σ 1 ((σ 19 (x1.toNatClampNeg)).toNatClampNeg) < fr_X4_wanted σ x1 → vp_in x1 4 ∧ (vp_in x1 4 ∧ (vp_in x1 4 ∧ (vp_in x1 4 ∧ (True))))) ∧ (¬ (σ 1 ((σ 19 (x1.toNatClampNeg)).toNatClampNeg) < fr_X4_wanted σ x1) → vp_in (σ 19 (x1.toNatClampNeg)) 64 ∧ (ok_X4_wanted σ x1 ∧ ((σ 1 ((σ 19 (x1.toNatClampNeg)).toNatClampNeg) = fr_X4_wanted σ x1 → ok_X4_over σ x1 1 ∧ (True)) ∧ (¬ (σ 1 ((σ 19 (x1.toNatClampNeg)).toNatClampNeg) = fr_X4_wanted σ x1) → ok_X4_over σ x1 0 ∧ (True)))))))) ∧ (¬ (σ 21 (x1.toNatClampNeg) = 0) → vp_in x1 4 ∧ (True)))) ∧ (¬ (σ 3 ((σ 18 (x1.toNatClampNeg)).toNatClampNeg) = 0) → vp_in x1 4 ∧ (True))))) ∧ (¬ (σ 2 ((σ 18 (x1.toNatClampNeg)).toNatClampNeg) = σ 19 (x1.toNatClampNeg)) → vp_in x1 4 ∧ (True)))))
set_option maxHeartbeats 4000000 in
set_option maxRecDepth 100000 in
theorem m_X4_look {l : Launch} {D : va_G} {cI cZ : ClassId} {ad : Nat → Nat} (hJ : zs_J 31 ad) (d : Nat) (σ : zs_T) (x1 : Int32) (hok : ok_X4_look σ x1) : zs_M l D vwCl (tysM cI cZ) 31 ad (wM cI cZ ad) yX4_look (Cond.code yX4_look cX4_look 3 none :: zw_G) (zw_rm (d + 2)) [.ref (ad 0), .int x1] zs_vv σ (fn_X4_look σ x1) := by
  refine zs_ofZ (cc := cX4_look) (nL := 3) (ret := none) (lv0 := [(0, .ref (ad 0)), (1, .int x1)]) (by decide) rfl hJ (Nat.le_of_ble_eq_true rfl) rfl ?_
  intro p e s m args below meth c C hr
  unfold ok_X4_look at hok
  unfold fn_X4_look
  refine zs_aload_n (k := 0) C dX4_look_0 rfl rfl ?_
  refine gM_cur C lkX4_84 dX4_look_1 ?_
  refine zs_iload_n (k := 1) C dX4_look_4 rfl rfl ?_
  obtain ⟨h_1, hok⟩ := hok
  refine aM_cur C h_1 dX4_look_5 ?_
  refine zs_istore_n (lv' := [(2, .int (σ 19 (x1.toNatClampNeg))), (0, .ref (ad 0)), (1, .int x1)]) C dX4_look_6 rfl (by decide) rfl ?_
  refine zs_aload_n (k := 1) C dX4_look_7 rfl rfl ?_
  refine gM_next C lkX4_20 dX4_look_8 ?_
  refine zs_aload_n (k := 1) C dX4_look_11 rfl rfl ?_
  refine gM_prev C lkX4_81 dX4_look_12 ?_
  refine zs_iload_n (k := 2) C dX4_look_15 rfl rfl ?_
  obtain ⟨h_2, hok⟩ := hok
  refine aM_prev C h_2 dX4_look_16 ?_
  obtain ⟨h_3, hok⟩ := hok
  refine aM_next C h_3 dX4_look_17 ?_
  refine zs_iload_n (k := 0) C dX4_look_18 rfl rfl ?_
  refine zs_icmp_ne (tgt := 36) C dX4_look_19 (by decide) (fun c_4 => ?_) (fun c_4 => ?_)
  · have hok := hok.1 c_4
    refine zs_aload_n (k := 1) C dX4_look_22 rfl rfl ?_
    refine gM_mark C lkX4_23 dX4_look_23 ?_
    refine zs_aload_n (k := 1) C dX4_look_26 rfl rfl ?_
    refine gM_prev C lkX4_81 dX4_look_27 ?_
    refine zs_iload_n (k := 2) C dX4_look_30 rfl rfl ?_
    obtain ⟨h_5, hok⟩ := hok
    refine aM_prev C h_5 dX4_look_31 ?_
    obtain ⟨h_6, hok⟩ := hok
    refine aM_mark C h_6 dX4_look_32 ?_
    refine zs_if_eq (tgt := 46) C dX4_look_33 (by decide) (fun c_7 => ?_) (fun c_7 => ?_)
    · have hok := hok.1 c_7
      refine zs_aload_n (k := 1) C dX4_look_46 rfl rfl ?_
      refine gM_marked C lkX4_90 dX4_look_47 ?_
      refine zs_iload_n (k := 2) C dX4_look_50 rfl rfl ?_
      obtain ⟨h_8, hok⟩ := hok
      refine aM_marked C h_8 dX4_look_51 ?_
      refine zs_if_eq (tgt := 66) C dX4_look_52 (by decide) (fun c_9 => ?_) (fun c_9 => ?_)
      · have hok := hok.1 c_9
        refine zs_aload_n (k := 1) C dX4_look_66 rfl rfl ?_
        refine gM_order C lkX4_17 dX4_look_67 ?_
        refine zs_iload_n (k := 0) C dX4_look_70 rfl rfl ?_
        obtain ⟨h_10, hok⟩ := hok
        refine aM_order C h_10 dX4_look_71 ?_
        refine zs_aload_n (k := 1) C dX4_look_72 rfl rfl ?_
        refine zs_iload_n (k := 2) C dX4_look_73 rfl rfl ?_
        obtain ⟨h_11, hok⟩ := hok
        refine zk_callVi (As := [.int x1]) (rest := [.int (σ 1 ((σ 19 (x1.toNatClampNeg)).toNatClampNeg))]) C pk_X4_wanted (by decide) lkX4_130 (m_X4_wanted hJ d σ x1 h_11) zm_recv rfl rfl rfl (Nat.le_of_ble_eq_true rfl) dX4_look_74 ?_
        refine zs_icmp_ge (tgt := 109) C dX4_look_77 (by decide) (fun c_12 => ?_) (fun c_12 => ?_)
        · have hok := hok.1 c_12
          refine zs_aload_n (k := 1) C dX4_look_80 rfl rfl ?_
          refine gM_prev C lkX4_81 dX4_look_81 ?_
          refine zs_iload_n (k := 2) C dX4_look_84 rfl rfl ?_
          refine zs_iload_n (k := 0) C dX4_look_85 rfl rfl ?_
          obtain ⟨h_13, hok⟩ := hok
          refine sM_prev C h_13 dX4_look_86 ?_
          refine zs_aload_n (k := 1) C dX4_look_87 rfl rfl ?_
          refine gM_cur C lkX4_84 dX4_look_88 ?_
          refine zs_iload_n (k := 2) C dX4_look_91 rfl rfl ?_
          refine zs_aload_n (k := 1) C dX4_look_92 rfl rfl ?_
          refine gM_nxt C lkX4_87 dX4_look_93 ?_
          refine zs_iload_n (k := 2) C dX4_look_96 rfl rfl ?_
          obtain ⟨h_14, hok⟩ := hok
          refine aM_nxt C h_14 dX4_look_97 ?_
          obtain ⟨h_15, hok⟩ := hok
          refine sM_cur C h_15 dX4_look_98 ?_
          refine zs_aload_n (k := 1) C dX4_look_99 rfl rfl ?_
          refine gM_place C lkX4_51 dX4_look_100 ?_
          refine zs_iload_n (k := 2) C dX4_look_103 rfl rfl ?_
          refine zs_iconst (v := 4) C dX4_look_104 (by decide) ?_
          obtain ⟨h_16, hok⟩ := hok
          refine sM_place C h_16 dX4_look_105 ?_
          refine zs_goto (tgt := 133) C dX4_look_106 (by decide) ?_
          exact zs_vret C hr dX4_look_133
        · have hok := hok.2 c_12
          refine zs_aload_n (k := 1) C dX4_look_109 rfl rfl ?_
          refine zs_iload_n (k := 2) C dX4_look_110 rfl rfl ?_
          refine zs_aload_n (k := 1) C dX4_look_111 rfl rfl ?_
          refine gM_order C lkX4_17 dX4_look_112 ?_
          refine zs_iload_n (k := 0) C dX4_look_115 rfl rfl ?_
          obtain ⟨h_17, hok⟩ := hok
          refine aM_order C h_17 dX4_look_116 ?_
          refine zs_aload_n (k := 1) C dX4_look_117 rfl rfl ?_
          refine zs_iload_n (k := 2) C dX4_look_118 rfl rfl ?_
          obtain ⟨h_18, hok⟩ := hok
          refine zk_callVi (As := [.int x1]) (rest := [.int (σ 1 ((σ 19 (x1.toNatClampNeg)).toNatClampNeg)), .int x1, .ref (ad 0)]) C pk_X4_wanted (by decide) lkX4_130 (m_X4_wanted hJ d σ x1 h_18) zm_recv rfl rfl rfl (Nat.le_of_ble_eq_true rfl) dX4_look_119 ?_
          refine zs_icmp_ne (tgt := 129) C dX4_look_122 (by decide) (fun c_19 => ?_) (fun c_19 => ?_)
          · have hok := hok.1 c_19
            refine zs_iconst (v := 1) C dX4_look_125 (by decide) ?_
            refine zs_goto (tgt := 130) C dX4_look_126 (by decide) ?_
            obtain ⟨h_20, hok⟩ := hok
            refine zk_callVv (As := [.int x1, .int 1]) (rest := []) C pk_X4_over (by decide) lkX4_133 (m_X4_over hJ d σ x1 1 h_20) zm_recv rfl rfl rfl (Nat.le_of_ble_eq_true rfl) dX4_look_130 ?_
            exact zs_vret C hr dX4_look_133
          · have hok := hok.2 c_19
            refine zs_iconst (v := 0) C dX4_look_129 (by decide) ?_
            obtain ⟨h_21, hok⟩ := hok
            refine zk_callVv (As := [.int x1, .int 0]) (rest := []) C pk_X4_over (by decide) lkX4_133 (m_X4_over hJ d σ x1 0 h_21) zm_recv rfl rfl rfl (Nat.le_of_ble_eq_true rfl) dX4_look_130 ?_
            exact zs_vret C hr dX4_look_133
      · have hok := hok.2 c_9
        refine zs_aload_n (k := 1) C dX4_look_55 rfl rfl ?_
        refine gM_place C lkX4_51 dX4_look_56 ?_
        refine zs_iload_n (k := 2) C dX4_look_59 rfl rfl ?_
        refine zs_bipush (v := 6) C dX4_look_60 (by decide) ?_
        obtain ⟨h_22, hok⟩ := hok
        refine sM_place C h_22 dX4_look_62 ?_
        refine zs_goto (tgt := 133) C dX4_look_63 (by decide) ?_
        exact zs_vret C hr dX4_look_133
    · have hok := hok.2 c_7
      refine zs_aload_n (k := 1) C dX4_look_36 rfl rfl ?_
      refine gM_place C lkX4_51 dX4_look_37 ?_
      refine zs_iload_n (k := 2) C dX4_look_40 rfl rfl ?_
      refine zs_iconst (v := 3) C dX4_look_41 (by decide) ?_
      obtain ⟨h_23, hok⟩ := hok
      refine sM_place C h_23 dX4_look_42 ?_
      refine zs_goto (tgt := 133) C dX4_look_43 (by decide) ?_
      exact zs_vret C hr dX4_look_133
  · have hok := hok.2 c_4
    refine zs_aload_n (k := 1) C dX4_look_36 rfl rfl ?_
    refine gM_place C lkX4_51 dX4_look_37 ?_
    refine zs_iload_n (k := 2) C dX4_look_40 rfl rfl ?_
    refine zs_iconst (v := 3) C dX4_look_41 (by decide) ?_
    obtain ⟨h_24, hok⟩ := hok
    refine sM_place C h_24 dX4_look_42 ?_
    refine zs_goto (tgt := 133) C dX4_look_43 (by decide) ?_
    exact zs_vret C hr dX4_look_133
