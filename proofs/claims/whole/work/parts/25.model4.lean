def fn_X4_start (σ : zs_T) (x1 : Int32) (x2 : Int32) (x3 : Int32) (x4 : Int32) : zs_O := (if fr_X4_in (zs_u σ 35 0 0) x1 0 3 = 0 then ((zs_u σ 35 0 0), 0) else (if (zs_u σ 35 0 0) 10 (x1.toNatClampNeg) = 0 then (if fr_X4_in (zs_u σ 35 0 0) x2 0 2 = 0 then ((zs_u σ 35 0 0), 0) else (if fr_X4_in (zs_u σ 35 0 0) x3 0 255 = 0 then ((zs_u σ 35 0 0), 0) else (if fr_X4_in (zs_u σ 35 0 0) x4 0 1000000 = 0 then ((zs_u σ 35 0 0), 0) else ((zs_u (zs_u (zs_u (zs_u (zs_u (zs_u (zs_u (zs_u (zs_u (zs_u (zs_u σ 35 0 0) 10 (x1.toNatClampNeg) 1) 11 (x1.toNatClampNeg) x2) 12 (x1.toNatClampNeg) x3) 13 (x1.toNatClampNeg) x4) 30 (x1.toNatClampNeg) 0) 18 (x1.toNatClampNeg) (-1)) 19 (x1.toNatClampNeg) (-1)) 20 (x1.toNatClampNeg) (-1)) 22 (x1.toNatClampNeg) (-1)) 24 (x1.toNatClampNeg) 0), 1)))) else ((zs_u σ 35 0 0), 0)))
def ok_X4_start (σ : zs_T) (x1 : Int32) (x2 : Int32) (x3 : Int32) (x4 : Int32) : Prop := (fr_X4_in (zs_u σ 35 0 0) x1 0 3 = 0 → True) ∧ (¬ (fr_X4_in (zs_u σ 35 0 0) x1 0 3 = 0) → vp_in x1 4 ∧ (((zs_u σ 35 0 0) 10 (x1.toNatClampNeg) = 0 → (fr_X4_in (zs_u σ 35 0 0) x2 0 2 = 0 → True) ∧ (¬ (fr_X4_in (zs_u σ 35 0 0) x2 0 2 = 0) → (fr_X4_in (zs_u σ 35 0 0) x3 0 255 = 0 → True) ∧ (¬ (fr_X4_in (zs_u σ 35 0 0) x3 0 255 = 0) → (fr_X4_in (zs_u σ 35 0 0) x4 0 1000000 = 0 → True) ∧ (¬ (fr_X4_in (zs_u σ 35 0 0) x4 0 1000000 = 0) → vp_in x1 4 ∧ (vp_in x1 4 ∧ (vp_in x1 4 ∧ (vp_in x1 4 ∧ (vp_in x1 4 ∧ (vp_in x1 4 ∧ (vp_in x1 4 ∧ (vp_in x1 4 ∧ (vp_in x1 4 ∧ (vp_in x1 4 ∧ (True)))))))))))))) ∧ (¬ ((zs_u σ 35 0 0) 10 (x1.toNatClampNeg) = 0) → True)))
set_option maxHeartbeats 4000000 in
set_option maxRecDepth 100000 in
theorem m_X4_start {l : Launch} {D : va_G} {cI cZ : ClassId} {ad : Nat → Nat} (hJ : zs_J 31 ad) (d : Nat) (σ : zs_T) (x1 : Int32) (x2 : Int32) (x3 : Int32) (x4 : Int32) (hok : ok_X4_start σ x1 x2 x3 x4) : zs_M l D vwCl (tysM cI cZ) 31 ad (wM cI cZ ad) yX4_start (Cond.code yX4_start cX4_start 5 (some .boolean) :: zw_G) (zw_rm (d + 1)) [.ref (ad 0), .int x1, .int x2, .int x3, .int x4] zs_vi σ (fn_X4_start σ x1 x2 x3 x4) := by
  refine zs_ofZ (cc := cX4_start) (nL := 5) (ret := (some .boolean)) (lv0 := [(0, .ref (ad 0)), (1, .int x1), (2, .int x2), (3, .int x3), (4, .int x4)]) (by decide) rfl hJ (Nat.le_of_ble_eq_true rfl) rfl ?_
  intro p e s m args below meth c C hr
  unfold ok_X4_start at hok
  unfold fn_X4_start
  refine zs_aload_n (k := 0) C dX4_start_0 rfl rfl ?_
  refine zs_iconst (v := 0) C dX4_start_1 (by decide) ?_
  refine pM_thrownCode C lkX4_7 dX4_start_2 ?_
  refine zs_iload_n (k := 1) C dX4_start_5 rfl rfl ?_
  refine zs_iconst (v := 0) C dX4_start_6 (by decide) ?_
  refine zs_iconst (v := 3) C dX4_start_7 (by decide) ?_
  refine zk_callSi (As := [.int x1, .int 0, .int 3]) (rest := []) C pk_X4_in (by decide) lkX4_121 (m_X4_in hJ d (zs_u σ 35 0 0) x1 0 3) rfl rfl (Nat.le_of_ble_eq_true rfl) dX4_start_8 ?_
  refine zs_if_eq (tgt := 54) C dX4_start_11 (by decide) (fun c_1 => ?_) (fun c_1 => ?_)
  · have hok := hok.1 c_1
    refine zs_iconst (v := 0) C dX4_start_54 (by decide) ?_
    exact zs_zret C hr rfl dX4_start_55
  · have hok := hok.2 c_1
    refine zs_aload_n (k := 0) C dX4_start_14 rfl rfl ?_
    refine gM_place C lkX4_51 dX4_start_15 ?_
    refine zs_iload_n (k := 1) C dX4_start_18 rfl rfl ?_
    obtain ⟨h_2, hok⟩ := hok
    refine aM_place C h_2 dX4_start_19 ?_
    refine zs_if_ne (tgt := 54) C dX4_start_20 (by decide) (fun c_3 => ?_) (fun c_3 => ?_)
    · have hok := hok.1 c_3
      refine zs_iload_n (k := 2) C dX4_start_23 rfl rfl ?_
      refine zs_iconst (v := 0) C dX4_start_24 (by decide) ?_
      refine zs_iconst (v := 2) C dX4_start_25 (by decide) ?_
      refine zk_callSi (As := [.int x2, .int 0, .int 2]) (rest := []) C pk_X4_in (by decide) lkX4_121 (m_X4_in hJ d (zs_u σ 35 0 0) x2 0 2) rfl rfl (Nat.le_of_ble_eq_true rfl) dX4_start_26 ?_
      refine zs_if_eq (tgt := 54) C dX4_start_29 (by decide) (fun c_4 => ?_) (fun c_4 => ?_)
      · have hok := hok.1 c_4
        refine zs_iconst (v := 0) C dX4_start_54 (by decide) ?_
        exact zs_zret C hr rfl dX4_start_55
      · have hok := hok.2 c_4
        refine zs_iload_n (k := 3) C dX4_start_32 rfl rfl ?_
        refine zs_iconst (v := 0) C dX4_start_33 (by decide) ?_
        refine zs_sipush (v := 255) C dX4_start_34 (by decide) ?_
        refine zk_callSi (As := [.int x3, .int 0, .int 255]) (rest := []) C pk_X4_in (by decide) lkX4_121 (m_X4_in hJ d (zs_u σ 35 0 0) x3 0 255) rfl rfl (Nat.le_of_ble_eq_true rfl) dX4_start_37 ?_
        refine zs_if_eq (tgt := 54) C dX4_start_40 (by decide) (fun c_5 => ?_) (fun c_5 => ?_)
        · have hok := hok.1 c_5
          refine zs_iconst (v := 0) C dX4_start_54 (by decide) ?_
          exact zs_zret C hr rfl dX4_start_55
        · have hok := hok.2 c_5
          refine zs_iload (k := 4) C dX4_start_43 rfl ?_
          refine zs_iconst (v := 0) C dX4_start_45 (by decide) ?_
          refine zs_ldc (v := 1000000) C (zw_in lkX4_125) dX4_start_46 ?_
          refine zk_callSi (As := [.int x4, .int 0, .int 1000000]) (rest := []) C pk_X4_in (by decide) lkX4_121 (m_X4_in hJ d (zs_u σ 35 0 0) x4 0 1000000) rfl rfl (Nat.le_of_ble_eq_true rfl) dX4_start_48 ?_
          refine zs_if_ne (tgt := 56) C dX4_start_51 (by decide) (fun c_6 => ?_) (fun c_6 => ?_)
          · have hok := hok.1 c_6
            refine zs_iconst (v := 0) C dX4_start_54 (by decide) ?_
            exact zs_zret C hr rfl dX4_start_55
          · have hok := hok.2 c_6
            refine zs_aload_n (k := 0) C dX4_start_56 rfl rfl ?_
            refine gM_place C lkX4_51 dX4_start_57 ?_
            refine zs_iload_n (k := 1) C dX4_start_60 rfl rfl ?_
            refine zs_iconst (v := 1) C dX4_start_61 (by decide) ?_
            obtain ⟨h_7, hok⟩ := hok
            refine sM_place C h_7 dX4_start_62 ?_
            refine zs_aload_n (k := 0) C dX4_start_63 rfl rfl ?_
            refine gM_operation C lkX4_54 dX4_start_64 ?_
            refine zs_iload_n (k := 1) C dX4_start_67 rfl rfl ?_
            refine zs_iload_n (k := 2) C dX4_start_68 rfl rfl ?_
            obtain ⟨h_8, hok⟩ := hok
            refine sM_operation C h_8 dX4_start_69 ?_
            refine zs_aload_n (k := 0) C dX4_start_70 rfl rfl ?_
            refine gM_key C lkX4_57 dX4_start_71 ?_
            refine zs_iload_n (k := 1) C dX4_start_74 rfl rfl ?_
            refine zs_iload_n (k := 3) C dX4_start_75 rfl rfl ?_
            obtain ⟨h_9, hok⟩ := hok
            refine sM_key C h_9 dX4_start_76 ?_
            refine zs_aload_n (k := 0) C dX4_start_77 rfl rfl ?_
            refine gM_value C lkX4_60 dX4_start_78 ?_
            refine zs_iload_n (k := 1) C dX4_start_81 rfl rfl ?_
            refine zs_iload (k := 4) C dX4_start_82 rfl ?_
            obtain ⟨h_10, hok⟩ := hok
            refine sM_value C h_10 dX4_start_84 ?_
            refine zs_aload_n (k := 0) C dX4_start_85 rfl rfl ?_
            refine gM_depth C lkX4_75 dX4_start_86 ?_
            refine zs_iload_n (k := 1) C dX4_start_89 rfl rfl ?_
            refine zs_iconst (v := 0) C dX4_start_90 (by decide) ?_
            obtain ⟨h_11, hok⟩ := hok
            refine sM_depth C h_11 dX4_start_91 ?_
            refine zs_aload_n (k := 0) C dX4_start_92 rfl rfl ?_
            refine gM_prev C lkX4_81 dX4_start_93 ?_
            refine zs_iload_n (k := 1) C dX4_start_96 rfl rfl ?_
            refine zs_iconst (v := (-1)) C dX4_start_97 (by decide) ?_
            obtain ⟨h_12, hok⟩ := hok
            refine sM_prev C h_12 dX4_start_98 ?_
            refine zs_aload_n (k := 0) C dX4_start_99 rfl rfl ?_
            refine gM_cur C lkX4_84 dX4_start_100 ?_
            refine zs_iload_n (k := 1) C dX4_start_103 rfl rfl ?_
            refine zs_iconst (v := (-1)) C dX4_start_104 (by decide) ?_
            obtain ⟨h_13, hok⟩ := hok
            refine sM_cur C h_13 dX4_start_105 ?_
            refine zs_aload_n (k := 0) C dX4_start_106 rfl rfl ?_
            refine gM_nxt C lkX4_87 dX4_start_107 ?_
            refine zs_iload_n (k := 1) C dX4_start_110 rfl rfl ?_
            refine zs_iconst (v := (-1)) C dX4_start_111 (by decide) ?_
            obtain ⟨h_14, hok⟩ := hok
            refine sM_nxt C h_14 dX4_start_112 ?_
            refine zs_aload_n (k := 0) C dX4_start_113 rfl rfl ?_
            refine gM_own C lkX4_93 dX4_start_114 ?_
            refine zs_iload_n (k := 1) C dX4_start_117 rfl rfl ?_
            refine zs_iconst (v := (-1)) C dX4_start_118 (by decide) ?_
            obtain ⟨h_15, hok⟩ := hok
            refine sM_own C h_15 dX4_start_119 ?_
            refine zs_aload_n (k := 0) C dX4_start_120 rfl rfl ?_
            refine gM_cleans C lkX4_99 dX4_start_121 ?_
            refine zs_iload_n (k := 1) C dX4_start_124 rfl rfl ?_
            refine zs_iconst (v := 0) C dX4_start_125 (by decide) ?_
            obtain ⟨h_16, hok⟩ := hok
            refine sM_cleans C h_16 (Or.inl rfl) dX4_start_126 ?_
            refine zs_iconst (v := 1) C dX4_start_127 (by decide) ?_
            exact zs_zret C hr rfl dX4_start_128
    · have hok := hok.2 c_3
      refine zs_iconst (v := 0) C dX4_start_54 (by decide) ?_
      exact zs_zret C hr rfl dX4_start_55

def fn_X4_step (σ : zs_T) (x1 : Int32) : zs_O := (if fr_X4_in (zs_u σ 35 0 0) x1 0 3 = 0 then ((zs_u σ 35 0 0), (-1)) else ((fn_X4_oneStep (zs_u σ 35 0 0) x1).1, ((fn_X4_oneStep (zs_u σ 35 0 0) x1).1) 10 (x1.toNatClampNeg)))
def ok_X4_step (σ : zs_T) (x1 : Int32) : Prop := (fr_X4_in (zs_u σ 35 0 0) x1 0 3 = 0 → True) ∧ (¬ (fr_X4_in (zs_u σ 35 0 0) x1 0 3 = 0) → ok_X4_oneStep (zs_u σ 35 0 0) x1 ∧ (vp_in x1 4 ∧ (True)))
set_option maxHeartbeats 4000000 in
set_option maxRecDepth 100000 in
theorem m_X4_step {l : Launch} {D : va_G} {cI cZ : ClassId} {ad : Nat → Nat} (hJ : zs_J 31 ad) (d : Nat) (σ : zs_T) (x1 : Int32) (hok : ok_X4_step σ x1) : zs_M l D vwCl (tysM cI cZ) 31 ad (wM cI cZ ad) yX4_step (Cond.code yX4_step cX4_step 2 (some .int) :: zw_G) (zw_rm (d + 4)) [.ref (ad 0), .int x1] zs_vi σ (fn_X4_step σ x1) := by
  refine zs_ofZ (cc := cX4_step) (nL := 2) (ret := (some .int)) (lv0 := [(0, .ref (ad 0)), (1, .int x1)]) (by decide) rfl hJ (Nat.le_of_ble_eq_true rfl) rfl ?_
  intro p e s m args below meth c C hr
  unfold ok_X4_step at hok
  unfold fn_X4_step
  refine zs_aload_n (k := 0) C dX4_step_0 rfl rfl ?_
  refine zs_iconst (v := 0) C dX4_step_1 (by decide) ?_
  refine pM_thrownCode C lkX4_7 dX4_step_2 ?_
  refine zs_iload_n (k := 1) C dX4_step_5 rfl rfl ?_
  refine zs_iconst (v := 0) C dX4_step_6 (by decide) ?_
  refine zs_iconst (v := 3) C dX4_step_7 (by decide) ?_
  refine zk_callSi (As := [.int x1, .int 0, .int 3]) (rest := []) C pk_X4_in (by decide) lkX4_121 (m_X4_in hJ (d + 3) (zs_u σ 35 0 0) x1 0 3) rfl rfl (Nat.le_of_ble_eq_true rfl) dX4_step_8 ?_
  refine zs_if_ne (tgt := 16) C dX4_step_11 (by decide) (fun c_1 => ?_) (fun c_1 => ?_)
  · have hok := hok.1 c_1
    refine zs_iconst (v := (-1)) C dX4_step_14 (by decide) ?_
    exact zs_iret C hr dX4_step_15
  · have hok := hok.2 c_1
    refine zs_aload_n (k := 0) C dX4_step_16 rfl rfl ?_
    refine zs_iload_n (k := 1) C dX4_step_17 rfl rfl ?_
    obtain ⟨h_2, hok⟩ := hok
    refine zk_callVv (As := [.int x1]) (rest := []) C pk_X4_oneStep (by decide) lkX4_164 (m_X4_oneStep hJ d (zs_u σ 35 0 0) x1 h_2) zm_recv rfl rfl rfl (Nat.le_of_ble_eq_true rfl) dX4_step_18 ?_
    refine zs_aload_n (k := 0) C dX4_step_21 rfl rfl ?_
    refine gM_place C lkX4_51 dX4_step_22 ?_
    refine zs_iload_n (k := 1) C dX4_step_25 rfl rfl ?_
    obtain ⟨h_3, hok⟩ := hok
    refine aM_place C h_3 dX4_step_26 ?_
    exact zs_iret C hr dX4_step_27

def fn_X4_run_L29 : Nat → zs_T → Int32 → Int32 → Int32 → zs_O
  | 0, σ, _, _, _ => (σ, 0)
  | n + 1, σ, x1, x2, x3 => (if x3 < x2 then (if σ 10 (x1.toNatClampNeg) = 0 then (σ, x3) else (fn_X4_run_L29 n ((fn_X4_oneStep σ x1).1) x1 x2 (x3 + 1))) else (σ, x3))
def ok_X4_run_L29 : Nat → zs_T → Int32 → Int32 → Int32 → Prop
  | 0, _, _, _, _ => False
  | n + 1, σ, x1, x2, x3 => (x3 < x2 → vp_in x1 4 ∧ ((σ 10 (x1.toNatClampNeg) = 0 → True) ∧ (¬ (σ 10 (x1.toNatClampNeg) = 0) → ok_X4_oneStep σ x1 ∧ ((ok_X4_run_L29 n ((fn_X4_oneStep σ x1).1) x1 x2 (x3 + 1)))))) ∧ (¬ (x3 < x2) → True)
set_option maxHeartbeats 4000000 in
set_option maxRecDepth 100000 in
theorem lp_X4_run_L29 {p : Program} {l : Launch} {e : Env} {s : State} {m : MethodId} {args : Array Value} {below : List Frame} {meth : Method} {c : Code} {D : va_G} {cI cZ : ClassId} {ad : Nat → Nat} (C : zs_C p s m args meth c cX4_run 4 (Cond.code yX4_run cX4_run 4 (some .int) :: zw_G) yX4_run.cls D vwCl (tysM cI cZ) 31 ad) (hr : meth.sig.returnType = (some .int)) (d : Nat) : ∀ (n : Nat) (σ : zs_T) (x1 : Int32) (x2 : Int32) (x3 : Int32), ok_X4_run_L29 n σ x1 x2 x3 → zs_Z p l e (zw_rm (d + 4)) s m args below meth c D vwCl 31 ad (wM cI cZ ad) 4 zs_vi (fn_X4_run_L29 n σ x1 x2 x3) σ 29 [(0, .ref (ad 0)), (1, .int x1), (2, .int x2), (3, .int x3)] [] := by
  have hJ := C.2.2.1
  intro n
  induction n with
  | zero => intro σ x1 x2 x3  hok; exact hok.elim
  | succ n ih =>
    intro σ x1 x2 x3  hok
    rw [ok_X4_run_L29] at hok
    rw [fn_X4_run_L29]
    refine zs_iload_n (k := 3) C dX4_run_29 rfl rfl ?_
    refine zs_iload_n (k := 2) C dX4_run_30 rfl rfl ?_
    refine zs_icmp_ge (tgt := 54) C dX4_run_31 (by decide) (fun c_3 => ?_) (fun c_3 => ?_)
    · have hok := hok.1 c_3
      refine zs_aload_n (k := 0) C dX4_run_34 rfl rfl ?_
      refine gM_place C lkX4_51 dX4_run_35 ?_
      refine zs_iload_n (k := 1) C dX4_run_38 rfl rfl ?_
      obtain ⟨h_4, hok⟩ := hok
      refine aM_place C h_4 dX4_run_39 ?_
      refine zs_if_eq (tgt := 54) C dX4_run_40 (by decide) (fun c_5 => ?_) (fun c_5 => ?_)
      · have hok := hok.1 c_5
        refine zs_iload_n (k := 3) C dX4_run_54 rfl rfl ?_
        exact zs_iret C hr dX4_run_55
      · have hok := hok.2 c_5
        refine zs_aload_n (k := 0) C dX4_run_43 rfl rfl ?_
        refine zs_iload_n (k := 1) C dX4_run_44 rfl rfl ?_
        obtain ⟨h_6, hok⟩ := hok
        refine zk_callVv (As := [.int x1]) (rest := []) C pk_X4_oneStep (by decide) lkX4_164 (m_X4_oneStep hJ d σ x1 h_6) zm_recv rfl rfl rfl (Nat.le_of_ble_eq_true rfl) dX4_run_45 ?_
        refine zs_iinc (k := 3) (v := x3 + 1) (lv' := [(3, .int (x3 + 1)), (0, .ref (ad 0)), (1, .int x1), (2, .int x2)]) C dX4_run_48 rfl rfl (by decide) rfl ?_
        refine zs_goto (tgt := 29) C dX4_run_51 (by decide) ?_
        exact zs_sub [1, 2, 3, 0] rfl (ih ((fn_X4_oneStep σ x1).1) x1 x2 (x3 + 1)  hok)
    · have hok := hok.2 c_3
      refine zs_iload_n (k := 3) C dX4_run_54 rfl rfl ?_
      exact zs_iret C hr dX4_run_55
def fn_X4_run (σ : zs_T) (x1 : Int32) (x2 : Int32) : zs_O := (if fr_X4_in (zs_u σ 35 0 0) x1 0 3 = 0 then ((zs_u σ 35 0 0), (-1)) else (if fr_X4_in (zs_u σ 35 0 0) x2 0 1000 = 0 then ((zs_u σ 35 0 0), (-1)) else (fn_X4_run_L29 1001 (zs_u σ 35 0 0) x1 x2 0)))
def ok_X4_run (σ : zs_T) (x1 : Int32) (x2 : Int32) : Prop := (fr_X4_in (zs_u σ 35 0 0) x1 0 3 = 0 → True) ∧ (¬ (fr_X4_in (zs_u σ 35 0 0) x1 0 3 = 0) → (fr_X4_in (zs_u σ 35 0 0) x2 0 1000 = 0 → True) ∧ (¬ (fr_X4_in (zs_u σ 35 0 0) x2 0 1000 = 0) → (ok_X4_run_L29 1001 (zs_u σ 35 0 0) x1 x2 0)))
set_option maxHeartbeats 4000000 in
set_option maxRecDepth 100000 in
theorem m_X4_run {l : Launch} {D : va_G} {cI cZ : ClassId} {ad : Nat → Nat} (hJ : zs_J 31 ad) (d : Nat) (σ : zs_T) (x1 : Int32) (x2 : Int32) (hok : ok_X4_run σ x1 x2) : zs_M l D vwCl (tysM cI cZ) 31 ad (wM cI cZ ad) yX4_run (Cond.code yX4_run cX4_run 4 (some .int) :: zw_G) (zw_rm (d + 4)) [.ref (ad 0), .int x1, .int x2] zs_vi σ (fn_X4_run σ x1 x2) := by
  refine zs_ofZ (cc := cX4_run) (nL := 4) (ret := (some .int)) (lv0 := [(0, .ref (ad 0)), (1, .int x1), (2, .int x2)]) (by decide) rfl hJ (Nat.le_of_ble_eq_true rfl) rfl ?_
  intro p e s m args below meth c C hr
  unfold ok_X4_run at hok
  unfold fn_X4_run
  refine zs_aload_n (k := 0) C dX4_run_0 rfl rfl ?_
  refine zs_iconst (v := 0) C dX4_run_1 (by decide) ?_
  refine pM_thrownCode C lkX4_7 dX4_run_2 ?_
  refine zs_iload_n (k := 1) C dX4_run_5 rfl rfl ?_
  refine zs_iconst (v := 0) C dX4_run_6 (by decide) ?_
  refine zs_iconst (v := 3) C dX4_run_7 (by decide) ?_
  refine zk_callSi (As := [.int x1, .int 0, .int 3]) (rest := []) C pk_X4_in (by decide) lkX4_121 (m_X4_in hJ (d + 3) (zs_u σ 35 0 0) x1 0 3) rfl rfl (Nat.le_of_ble_eq_true rfl) dX4_run_8 ?_
  refine zs_if_eq (tgt := 25) C dX4_run_11 (by decide) (fun c_1 => ?_) (fun c_1 => ?_)
  · have hok := hok.1 c_1
    refine zs_iconst (v := (-1)) C dX4_run_25 (by decide) ?_
    exact zs_iret C hr dX4_run_26
  · have hok := hok.2 c_1
    refine zs_iload_n (k := 2) C dX4_run_14 rfl rfl ?_
    refine zs_iconst (v := 0) C dX4_run_15 (by decide) ?_
    refine zs_sipush (v := 1000) C dX4_run_16 (by decide) ?_
    refine zk_callSi (As := [.int x2, .int 0, .int 1000]) (rest := []) C pk_X4_in (by decide) lkX4_121 (m_X4_in hJ (d + 3) (zs_u σ 35 0 0) x2 0 1000) rfl rfl (Nat.le_of_ble_eq_true rfl) dX4_run_19 ?_
    refine zs_if_ne (tgt := 27) C dX4_run_22 (by decide) (fun c_2 => ?_) (fun c_2 => ?_)
    · have hok := hok.1 c_2
      refine zs_iconst (v := (-1)) C dX4_run_25 (by decide) ?_
      exact zs_iret C hr dX4_run_26
    · have hok := hok.2 c_2
      refine zs_iconst (v := 0) C dX4_run_27 (by decide) ?_
      refine zs_istore_n (lv' := [(3, .int 0), (0, .ref (ad 0)), (1, .int x1), (2, .int x2)]) C dX4_run_28 rfl (by decide) rfl ?_
      exact zs_sub [1, 2, 3, 0] rfl (lp_X4_run_L29 C hr d 1001 (zs_u σ 35 0 0) x1 x2 0  hok)

def fn_X4_result (σ : zs_T) (x1 : Int32) : zs_O := (if fr_X4_in (zs_u σ 35 0 0) x1 0 3 = 0 then ((zs_u (zs_u σ 35 0 0) 35 0 1), 0) else ((zs_u σ 35 0 0), (zs_u σ 35 0 0) 26 (x1.toNatClampNeg)))
def ok_X4_result (σ : zs_T) (x1 : Int32) : Prop := (fr_X4_in (zs_u σ 35 0 0) x1 0 3 = 0 → True) ∧ (¬ (fr_X4_in (zs_u σ 35 0 0) x1 0 3 = 0) → vp_in x1 4 ∧ (True))
set_option maxHeartbeats 4000000 in
set_option maxRecDepth 100000 in
theorem m_X4_result {l : Launch} {D : va_G} {cI cZ : ClassId} {ad : Nat → Nat} (hJ : zs_J 31 ad) (d : Nat) (σ : zs_T) (x1 : Int32) (hok : ok_X4_result σ x1) : zs_M l D vwCl (tysM cI cZ) 31 ad (wM cI cZ ad) yX4_result (Cond.code yX4_result cX4_result 2 (some .int) :: zw_G) (zw_rm (d + 1)) [.ref (ad 0), .int x1] zs_vi σ (fn_X4_result σ x1) := by
  refine zs_ofZ (cc := cX4_result) (nL := 2) (ret := (some .int)) (lv0 := [(0, .ref (ad 0)), (1, .int x1)]) (by decide) rfl hJ (Nat.le_of_ble_eq_true rfl) rfl ?_
  intro p e s m args below meth c C hr
  unfold ok_X4_result at hok
  unfold fn_X4_result
  refine zs_aload_n (k := 0) C dX4_result_0 rfl rfl ?_
  refine zs_iconst (v := 0) C dX4_result_1 (by decide) ?_
  refine pM_thrownCode C lkX4_7 dX4_result_2 ?_
  refine zs_iload_n (k := 1) C dX4_result_5 rfl rfl ?_
  refine zs_iconst (v := 0) C dX4_result_6 (by decide) ?_
  refine zs_iconst (v := 3) C dX4_result_7 (by decide) ?_
  refine zk_callSi (As := [.int x1, .int 0, .int 3]) (rest := []) C pk_X4_in (by decide) lkX4_121 (m_X4_in hJ d (zs_u σ 35 0 0) x1 0 3) rfl rfl (Nat.le_of_ble_eq_true rfl) dX4_result_8 ?_
  refine zs_if_ne (tgt := 21) C dX4_result_11 (by decide) (fun c_1 => ?_) (fun c_1 => ?_)
  · have hok := hok.1 c_1
    refine zs_aload_n (k := 0) C dX4_result_14 rfl rfl ?_
    refine zs_iconst (v := 1) C dX4_result_15 (by decide) ?_
    refine pM_thrownCode C lkX4_7 dX4_result_16 ?_
    refine zs_iconst (v := 0) C dX4_result_19 (by decide) ?_
    exact zs_iret C hr dX4_result_20
  · have hok := hok.2 c_1
    refine zs_aload_n (k := 0) C dX4_result_21 rfl rfl ?_
    refine gM_results C lkX4_111 dX4_result_22 ?_
    refine zs_iload_n (k := 1) C dX4_result_25 rfl rfl ?_
    obtain ⟨h_2, hok⟩ := hok
    refine aM_results C h_2 dX4_result_26 ?_
    exact zs_iret C hr dX4_result_27

def fn_X4_process (σ : zs_T) (x1 : Int32) (x2 : Int32) : zs_O := (if fr_X4_in (zs_u σ 35 0 0) x1 0 3 = 0 then ((zs_u (zs_u σ 35 0 0) 35 0 1), 0) else (if fr_X4_in (zs_u σ 35 0 0) x2 0 8 = 0 then ((zs_u (zs_u σ 35 0 0) 35 0 1), 0) else (if x2 = 0 then ((zs_u σ 35 0 0), (zs_u σ 35 0 0) 10 (x1.toNatClampNeg)) else (if x2 = 1 then ((zs_u σ 35 0 0), (zs_u σ 35 0 0) 14 (x1.toNatClampNeg)) else (if x2 = 2 then ((zs_u σ 35 0 0), (zs_u σ 35 0 0) 15 (x1.toNatClampNeg)) else (if x2 = 3 then ((zs_u σ 35 0 0), (zs_u σ 35 0 0) 29 (x1.toNatClampNeg)) else (if x2 = 4 then ((zs_u σ 35 0 0), (zs_u σ 35 0 0) 30 (x1.toNatClampNeg)) else (if (zs_u σ 35 0 0) 10 (x1.toNatClampNeg) = 0 then ((zs_u σ 35 0 0), (-1)) else (if x2 = 5 then ((zs_u σ 35 0 0), (zs_u σ 35 0 0) 18 (x1.toNatClampNeg)) else (if x2 = 6 then ((zs_u σ 35 0 0), (zs_u σ 35 0 0) 19 (x1.toNatClampNeg)) else (if x2 = 7 then ((zs_u σ 35 0 0), (zs_u σ 35 0 0) 20 (x1.toNatClampNeg)) else ((zs_u σ 35 0 0), (zs_u σ 35 0 0) 22 (x1.toNatClampNeg)))))))))))))
def ok_X4_process (σ : zs_T) (x1 : Int32) (x2 : Int32) : Prop := (fr_X4_in (zs_u σ 35 0 0) x1 0 3 = 0 → True) ∧ (¬ (fr_X4_in (zs_u σ 35 0 0) x1 0 3 = 0) → (fr_X4_in (zs_u σ 35 0 0) x2 0 8 = 0 → True) ∧ (¬ (fr_X4_in (zs_u σ 35 0 0) x2 0 8 = 0) → (x2 = 0 → vp_in x1 4 ∧ (True)) ∧ (¬ (x2 = 0) → (x2 = 1 → vp_in x1 4 ∧ (True)) ∧ (¬ (x2 = 1) → (x2 = 2 → vp_in x1 4 ∧ (True)) ∧ (¬ (x2 = 2) → (x2 = 3 → vp_in x1 4 ∧ (True)) ∧ (¬ (x2 = 3) → (x2 = 4 → vp_in x1 4 ∧ (True)) ∧ (¬ (x2 = 4) → vp_in x1 4 ∧ (((zs_u σ 35 0 0) 10 (x1.toNatClampNeg) = 0 → True) ∧ (¬ ((zs_u σ 35 0 0) 10 (x1.toNatClampNeg) = 0) → (x2 = 5 → vp_in x1 4 ∧ (True)) ∧ (¬ (x2 = 5) → (x2 = 6 → vp_in x1 4 ∧ (True)) ∧ (¬ (x2 = 6) → (x2 = 7 → vp_in x1 4 ∧ (True)) ∧ (¬ (x2 = 7) → vp_in x1 4 ∧ (True)))))))))))))
set_option maxHeartbeats 4000000 in
set_option maxRecDepth 100000 in
theorem m_X4_process {l : Launch} {D : va_G} {cI cZ : ClassId} {ad : Nat → Nat} (hJ : zs_J 31 ad) (d : Nat) (σ : zs_T) (x1 : Int32) (x2 : Int32) (hok : ok_X4_process σ x1 x2) : zs_M l D vwCl (tysM cI cZ) 31 ad (wM cI cZ ad) yX4_process (Cond.code yX4_process cX4_process 4 (some .int) :: zw_G) (zw_rm (d + 1)) [.ref (ad 0), .int x1, .int x2] zs_vi σ (fn_X4_process σ x1 x2) := by
  refine zs_ofZ (cc := cX4_process) (nL := 4) (ret := (some .int)) (lv0 := [(0, .ref (ad 0)), (1, .int x1), (2, .int x2)]) (by decide) rfl hJ (Nat.le_of_ble_eq_true rfl) rfl ?_
  intro p e s m args below meth c C hr
  unfold ok_X4_process at hok
  unfold fn_X4_process
  refine zs_aload_n (k := 0) C dX4_process_0 rfl rfl ?_
  refine zs_iconst (v := 0) C dX4_process_1 (by decide) ?_
  refine pM_thrownCode C lkX4_7 dX4_process_2 ?_
  refine zs_iload_n (k := 1) C dX4_process_5 rfl rfl ?_
  refine zs_istore_n (lv' := [(3, .int x1), (0, .ref (ad 0)), (1, .int x1), (2, .int x2)]) C dX4_process_6 rfl (by decide) rfl ?_
  refine zs_iload_n (k := 0) C dX4_process_7 rfl rfl ?_
  refine zs_iconst (v := 0) C dX4_process_8 (by decide) ?_
  refine zs_iconst (v := 3) C dX4_process_9 (by decide) ?_
  refine zk_callSi (As := [.int x1, .int 0, .int 3]) (rest := []) C pk_X4_in (by decide) lkX4_121 (m_X4_in hJ d (zs_u σ 35 0 0) x1 0 3) rfl rfl (Nat.le_of_ble_eq_true rfl) dX4_process_10 ?_
  refine zs_if_eq (tgt := 26) C dX4_process_13 (by decide) (fun c_1 => ?_) (fun c_1 => ?_)
  · have hok := hok.1 c_1
    refine zs_aload_n (k := 1) C dX4_process_26 rfl rfl ?_
    refine zs_iconst (v := 1) C dX4_process_27 (by decide) ?_
    refine pM_thrownCode C lkX4_7 dX4_process_28 ?_
    refine zs_iconst (v := 0) C dX4_process_31 (by decide) ?_
    exact zs_iret C hr dX4_process_32
  · have hok := hok.2 c_1
    refine zs_iload_n (k := 3) C dX4_process_16 rfl rfl ?_
    refine zs_iconst (v := 0) C dX4_process_17 (by decide) ?_
    refine zs_bipush (v := 8) C dX4_process_18 (by decide) ?_
    refine zk_callSi (As := [.int x2, .int 0, .int 8]) (rest := []) C pk_X4_in (by decide) lkX4_121 (m_X4_in hJ d (zs_u σ 35 0 0) x2 0 8) rfl rfl (Nat.le_of_ble_eq_true rfl) dX4_process_20 ?_
    refine zs_if_ne (tgt := 33) C dX4_process_23 (by decide) (fun c_2 => ?_) (fun c_2 => ?_)
    · have hok := hok.1 c_2
      refine zs_aload_n (k := 1) C dX4_process_26 rfl rfl ?_
      refine zs_iconst (v := 1) C dX4_process_27 (by decide) ?_
      refine pM_thrownCode C lkX4_7 dX4_process_28 ?_
      refine zs_iconst (v := 0) C dX4_process_31 (by decide) ?_
      exact zs_iret C hr dX4_process_32
    · have hok := hok.2 c_2
      refine zs_iload_n (k := 3) C dX4_process_33 rfl rfl ?_
      refine zs_if_ne (tgt := 44) C dX4_process_34 (by decide) (fun c_3 => ?_) (fun c_3 => ?_)
      · have hok := hok.1 c_3
        refine zs_aload_n (k := 1) C dX4_process_37 rfl rfl ?_
        refine gM_place C lkX4_51 dX4_process_38 ?_
        refine zs_iload_n (k := 0) C dX4_process_41 rfl rfl ?_
        obtain ⟨h_4, hok⟩ := hok
        refine aM_place C h_4 dX4_process_42 ?_
        exact zs_iret C hr dX4_process_43
      · have hok := hok.2 c_3
        refine zs_iload_n (k := 3) C dX4_process_44 rfl rfl ?_
        refine zs_iconst (v := 1) C dX4_process_45 (by decide) ?_
        refine zs_icmp_ne (tgt := 56) C dX4_process_46 (by decide) (fun c_5 => ?_) (fun c_5 => ?_)
        · have hok := hok.1 c_5
          refine zs_aload_n (k := 1) C dX4_process_49 rfl rfl ?_
          refine gM_low C lkX4_63 dX4_process_50 ?_
          refine zs_iload_n (k := 0) C dX4_process_53 rfl rfl ?_
          obtain ⟨h_6, hok⟩ := hok
          refine aM_low C h_6 dX4_process_54 ?_
          exact zs_iret C hr dX4_process_55
        · have hok := hok.2 c_5
          refine zs_iload_n (k := 3) C dX4_process_56 rfl rfl ?_
          refine zs_iconst (v := 2) C dX4_process_57 (by decide) ?_
          refine zs_icmp_ne (tgt := 68) C dX4_process_58 (by decide) (fun c_7 => ?_) (fun c_7 => ?_)
          · have hok := hok.1 c_7
            refine zs_aload_n (k := 1) C dX4_process_61 rfl rfl ?_
            refine gM_high C lkX4_66 dX4_process_62 ?_
            refine zs_iload_n (k := 0) C dX4_process_65 rfl rfl ?_
            obtain ⟨h_8, hok⟩ := hok
            refine aM_high C h_8 dX4_process_66 ?_
            exact zs_iret C hr dX4_process_67
          · have hok := hok.2 c_7
            refine zs_iload_n (k := 3) C dX4_process_68 rfl rfl ?_
            refine zs_iconst (v := 3) C dX4_process_69 (by decide) ?_
            refine zs_icmp_ne (tgt := 80) C dX4_process_70 (by decide) (fun c_9 => ?_) (fun c_9 => ?_)
            · have hok := hok.1 c_9
              refine zs_aload_n (k := 1) C dX4_process_73 rfl rfl ?_
              refine gM_rows C lkX4_108 dX4_process_74 ?_
              refine zs_iload_n (k := 0) C dX4_process_77 rfl rfl ?_
              obtain ⟨h_10, hok⟩ := hok
              refine aM_rows C h_10 dX4_process_78 ?_
              exact zs_iret C hr dX4_process_79
            · have hok := hok.2 c_9
              refine zs_iload_n (k := 3) C dX4_process_80 rfl rfl ?_
              refine zs_iconst (v := 4) C dX4_process_81 (by decide) ?_
              refine zs_icmp_ne (tgt := 92) C dX4_process_82 (by decide) (fun c_11 => ?_) (fun c_11 => ?_)
              · have hok := hok.1 c_11
                refine zs_aload_n (k := 1) C dX4_process_85 rfl rfl ?_
                refine gM_depth C lkX4_75 dX4_process_86 ?_
                refine zs_iload_n (k := 0) C dX4_process_89 rfl rfl ?_
                obtain ⟨h_12, hok⟩ := hok
                refine aM_depth C h_12 dX4_process_90 ?_
                exact zs_iret C hr dX4_process_91
              · have hok := hok.2 c_11
                refine zs_aload_n (k := 1) C dX4_process_92 rfl rfl ?_
                refine gM_place C lkX4_51 dX4_process_93 ?_
                refine zs_iload_n (k := 0) C dX4_process_96 rfl rfl ?_
                obtain ⟨h_13, hok⟩ := hok
                refine aM_place C h_13 dX4_process_97 ?_
                refine zs_if_ne (tgt := 103) C dX4_process_98 (by decide) (fun c_14 => ?_) (fun c_14 => ?_)
                · have hok := hok.1 c_14
                  refine zs_iconst (v := (-1)) C dX4_process_101 (by decide) ?_
                  exact zs_iret C hr dX4_process_102
                · have hok := hok.2 c_14
                  refine zs_iload_n (k := 3) C dX4_process_103 rfl rfl ?_
                  refine zs_iconst (v := 5) C dX4_process_104 (by decide) ?_
                  refine zs_icmp_ne (tgt := 115) C dX4_process_105 (by decide) (fun c_15 => ?_) (fun c_15 => ?_)
                  · have hok := hok.1 c_15
                    refine zs_aload_n (k := 1) C dX4_process_108 rfl rfl ?_
                    refine gM_prev C lkX4_81 dX4_process_109 ?_
                    refine zs_iload_n (k := 0) C dX4_process_112 rfl rfl ?_
                    obtain ⟨h_16, hok⟩ := hok
                    refine aM_prev C h_16 dX4_process_113 ?_
                    exact zs_iret C hr dX4_process_114
                  · have hok := hok.2 c_15
                    refine zs_iload_n (k := 3) C dX4_process_115 rfl rfl ?_
                    refine zs_bipush (v := 6) C dX4_process_116 (by decide) ?_
                    refine zs_icmp_ne (tgt := 128) C dX4_process_118 (by decide) (fun c_17 => ?_) (fun c_17 => ?_)
                    · have hok := hok.1 c_17
                      refine zs_aload_n (k := 1) C dX4_process_121 rfl rfl ?_
                      refine gM_cur C lkX4_84 dX4_process_122 ?_
                      refine zs_iload_n (k := 0) C dX4_process_125 rfl rfl ?_
                      obtain ⟨h_18, hok⟩ := hok
                      refine aM_cur C h_18 dX4_process_126 ?_
                      exact zs_iret C hr dX4_process_127
                    · have hok := hok.2 c_17
                      refine zs_iload_n (k := 3) C dX4_process_128 rfl rfl ?_
                      refine zs_bipush (v := 7) C dX4_process_129 (by decide) ?_
                      refine zs_icmp_ne (tgt := 141) C dX4_process_131 (by decide) (fun c_19 => ?_) (fun c_19 => ?_)
                      · have hok := hok.1 c_19
                        refine zs_aload_n (k := 1) C dX4_process_134 rfl rfl ?_
                        refine gM_nxt C lkX4_87 dX4_process_135 ?_
                        refine zs_iload_n (k := 0) C dX4_process_138 rfl rfl ?_
                        obtain ⟨h_20, hok⟩ := hok
                        refine aM_nxt C h_20 dX4_process_139 ?_
                        exact zs_iret C hr dX4_process_140
                      · have hok := hok.2 c_19
                        refine zs_aload_n (k := 1) C dX4_process_141 rfl rfl ?_
                        refine gM_own C lkX4_93 dX4_process_142 ?_
                        refine zs_iload_n (k := 0) C dX4_process_145 rfl rfl ?_
                        obtain ⟨h_21, hok⟩ := hok
                        refine aM_own C h_21 dX4_process_146 ?_
                        exact zs_iret C hr dX4_process_147

def fn_X4_node (σ : zs_T) (x1 : Int32) (x2 : Int32) : zs_O := (if fr_X4_in (zs_u σ 35 0 0) x1 0 63 = 0 then ((zs_u (zs_u σ 35 0 0) 35 0 1), 0) else (if fr_X4_in (zs_u σ 35 0 0) x2 0 7 = 0 then ((zs_u (zs_u σ 35 0 0) 35 0 1), 0) else (if x2 = 0 then ((zs_u σ 35 0 0), (zs_u σ 35 0 0) 0 (x1.toNatClampNeg)) else (if x2 = 1 then ((zs_u σ 35 0 0), (zs_u σ 35 0 0) 1 (x1.toNatClampNeg)) else (if x2 = 2 then ((zs_u σ 35 0 0), (zs_u σ 35 0 0) 2 (x1.toNatClampNeg)) else (if x2 = 4 then ((zs_u σ 35 0 0), (zs_u σ 35 0 0) 4 (x1.toNatClampNeg)) else (if x2 = 5 then ((zs_u σ 35 0 0), (zs_u σ 35 0 0) 5 (x1.toNatClampNeg)) else (if x2 = 6 then ((zs_u σ 35 0 0), (zs_u σ 35 0 0) 6 (x1.toNatClampNeg)) else (if x2 = 7 then ((zs_u σ 35 0 0), (zs_u σ 35 0 0) 7 (x1.toNatClampNeg)) else (if (zs_u σ 35 0 0) 3 (x1.toNatClampNeg) = 0 then ((zs_u σ 35 0 0), 0) else ((zs_u σ 35 0 0), 1)))))))))))
def ok_X4_node (σ : zs_T) (x1 : Int32) (x2 : Int32) : Prop := (fr_X4_in (zs_u σ 35 0 0) x1 0 63 = 0 → True) ∧ (¬ (fr_X4_in (zs_u σ 35 0 0) x1 0 63 = 0) → (fr_X4_in (zs_u σ 35 0 0) x2 0 7 = 0 → True) ∧ (¬ (fr_X4_in (zs_u σ 35 0 0) x2 0 7 = 0) → (x2 = 0 → vp_in x1 64 ∧ (True)) ∧ (¬ (x2 = 0) → (x2 = 1 → vp_in x1 64 ∧ (True)) ∧ (¬ (x2 = 1) → (x2 = 2 → vp_in x1 64 ∧ (True)) ∧ (¬ (x2 = 2) → (x2 = 4 → vp_in x1 64 ∧ (True)) ∧ (¬ (x2 = 4) → (x2 = 5 → vp_in x1 64 ∧ (True)) ∧ (¬ (x2 = 5) → (x2 = 6 → vp_in x1 64 ∧ (True)) ∧ (¬ (x2 = 6) → (x2 = 7 → vp_in x1 64 ∧ (True)) ∧ (¬ (x2 = 7) → vp_in x1 64 ∧ (True))))))))))
set_option maxHeartbeats 4000000 in
set_option maxRecDepth 100000 in
theorem m_X4_node {l : Launch} {D : va_G} {cI cZ : ClassId} {ad : Nat → Nat} (hJ : zs_J 31 ad) (d : Nat) (σ : zs_T) (x1 : Int32) (x2 : Int32) (hok : ok_X4_node σ x1 x2) : zs_M l D vwCl (tysM cI cZ) 31 ad (wM cI cZ ad) yX4_node (Cond.code yX4_node cX4_node 3 (some .int) :: zw_G) (zw_rm (d + 1)) [.ref (ad 0), .int x1, .int x2] zs_vi σ (fn_X4_node σ x1 x2) := by
  refine zs_ofZ (cc := cX4_node) (nL := 3) (ret := (some .int)) (lv0 := [(0, .ref (ad 0)), (1, .int x1), (2, .int x2)]) (by decide) rfl hJ (Nat.le_of_ble_eq_true rfl) rfl ?_
  intro p e s m args below meth c C hr
  unfold ok_X4_node at hok
  unfold fn_X4_node
  refine zs_aload_n (k := 0) C dX4_node_0 rfl rfl ?_
  refine zs_iconst (v := 0) C dX4_node_1 (by decide) ?_
  refine pM_thrownCode C lkX4_7 dX4_node_2 ?_
  refine zs_iload_n (k := 1) C dX4_node_5 rfl rfl ?_
  refine zs_iconst (v := 0) C dX4_node_6 (by decide) ?_
  refine zs_bipush (v := 63) C dX4_node_7 (by decide) ?_
  refine zk_callSi (As := [.int x1, .int 0, .int 63]) (rest := []) C pk_X4_in (by decide) lkX4_121 (m_X4_in hJ d (zs_u σ 35 0 0) x1 0 63) rfl rfl (Nat.le_of_ble_eq_true rfl) dX4_node_9 ?_
  refine zs_if_eq (tgt := 25) C dX4_node_12 (by decide) (fun c_1 => ?_) (fun c_1 => ?_)
  · have hok := hok.1 c_1
    refine zs_aload_n (k := 0) C dX4_node_25 rfl rfl ?_
    refine zs_iconst (v := 1) C dX4_node_26 (by decide) ?_
    refine pM_thrownCode C lkX4_7 dX4_node_27 ?_
    refine zs_iconst (v := 0) C dX4_node_30 (by decide) ?_
    exact zs_iret C hr dX4_node_31
  · have hok := hok.2 c_1
    refine zs_iload_n (k := 2) C dX4_node_15 rfl rfl ?_
    refine zs_iconst (v := 0) C dX4_node_16 (by decide) ?_
    refine zs_bipush (v := 7) C dX4_node_17 (by decide) ?_
    refine zk_callSi (As := [.int x2, .int 0, .int 7]) (rest := []) C pk_X4_in (by decide) lkX4_121 (m_X4_in hJ d (zs_u σ 35 0 0) x2 0 7) rfl rfl (Nat.le_of_ble_eq_true rfl) dX4_node_19 ?_
    refine zs_if_ne (tgt := 32) C dX4_node_22 (by decide) (fun c_2 => ?_) (fun c_2 => ?_)
    · have hok := hok.1 c_2
      refine zs_aload_n (k := 0) C dX4_node_25 rfl rfl ?_
      refine zs_iconst (v := 1) C dX4_node_26 (by decide) ?_
      refine pM_thrownCode C lkX4_7 dX4_node_27 ?_
      refine zs_iconst (v := 0) C dX4_node_30 (by decide) ?_
      exact zs_iret C hr dX4_node_31
    · have hok := hok.2 c_2
      refine zs_iload_n (k := 2) C dX4_node_32 rfl rfl ?_
      refine zs_if_ne (tgt := 43) C dX4_node_33 (by decide) (fun c_3 => ?_) (fun c_3 => ?_)
      · have hok := hok.1 c_3
        refine zs_aload_n (k := 0) C dX4_node_36 rfl rfl ?_
        refine gM_sort C lkX4_13 dX4_node_37 ?_
        refine zs_iload_n (k := 1) C dX4_node_40 rfl rfl ?_
        obtain ⟨h_4, hok⟩ := hok
        refine aM_sort C h_4 dX4_node_41 ?_
        exact zs_iret C hr dX4_node_42
      · have hok := hok.2 c_3
        refine zs_iload_n (k := 2) C dX4_node_43 rfl rfl ?_
        refine zs_iconst (v := 1) C dX4_node_44 (by decide) ?_
        refine zs_icmp_ne (tgt := 55) C dX4_node_45 (by decide) (fun c_5 => ?_) (fun c_5 => ?_)
        · have hok := hok.1 c_5
          refine zs_aload_n (k := 0) C dX4_node_48 rfl rfl ?_
          refine gM_order C lkX4_17 dX4_node_49 ?_
          refine zs_iload_n (k := 1) C dX4_node_52 rfl rfl ?_
          obtain ⟨h_6, hok⟩ := hok
          refine aM_order C h_6 dX4_node_53 ?_
          exact zs_iret C hr dX4_node_54
        · have hok := hok.2 c_5
          refine zs_iload_n (k := 2) C dX4_node_55 rfl rfl ?_
          refine zs_iconst (v := 2) C dX4_node_56 (by decide) ?_
          refine zs_icmp_ne (tgt := 67) C dX4_node_57 (by decide) (fun c_7 => ?_) (fun c_7 => ?_)
          · have hok := hok.1 c_7
            refine zs_aload_n (k := 0) C dX4_node_60 rfl rfl ?_
            refine gM_next C lkX4_20 dX4_node_61 ?_
            refine zs_iload_n (k := 1) C dX4_node_64 rfl rfl ?_
            obtain ⟨h_8, hok⟩ := hok
            refine aM_next C h_8 dX4_node_65 ?_
            exact zs_iret C hr dX4_node_66
          · have hok := hok.2 c_7
            refine zs_iload_n (k := 2) C dX4_node_67 rfl rfl ?_
            refine zs_iconst (v := 4) C dX4_node_68 (by decide) ?_
            refine zs_icmp_ne (tgt := 79) C dX4_node_69 (by decide) (fun c_9 => ?_) (fun c_9 => ?_)
            · have hok := hok.1 c_9
              refine zs_aload_n (k := 0) C dX4_node_72 rfl rfl ?_
              refine gM_keyOf C lkX4_27 dX4_node_73 ?_
              refine zs_iload_n (k := 1) C dX4_node_76 rfl rfl ?_
              obtain ⟨h_10, hok⟩ := hok
              refine aM_keyOf C h_10 dX4_node_77 ?_
              exact zs_iret C hr dX4_node_78
            · have hok := hok.2 c_9
              refine zs_iload_n (k := 2) C dX4_node_79 rfl rfl ?_
              refine zs_iconst (v := 5) C dX4_node_80 (by decide) ?_
              refine zs_icmp_ne (tgt := 91) C dX4_node_81 (by decide) (fun c_11 => ?_) (fun c_11 => ?_)
              · have hok := hok.1 c_11
                refine zs_aload_n (k := 0) C dX4_node_84 rfl rfl ?_
                refine gM_valueOf C lkX4_30 dX4_node_85 ?_
                refine zs_iload_n (k := 1) C dX4_node_88 rfl rfl ?_
                obtain ⟨h_12, hok⟩ := hok
                refine aM_valueOf C h_12 dX4_node_89 ?_
                exact zs_iret C hr dX4_node_90
              · have hok := hok.2 c_11
                refine zs_iload_n (k := 2) C dX4_node_91 rfl rfl ?_
                refine zs_bipush (v := 6) C dX4_node_92 (by decide) ?_
                refine zs_icmp_ne (tgt := 104) C dX4_node_94 (by decide) (fun c_13 => ?_) (fun c_13 => ?_)
                · have hok := hok.1 c_13
                  refine zs_aload_n (k := 0) C dX4_node_97 rfl rfl ?_
                  refine gM_born C lkX4_33 dX4_node_98 ?_
                  refine zs_iload_n (k := 1) C dX4_node_101 rfl rfl ?_
                  obtain ⟨h_14, hok⟩ := hok
                  refine aM_born C h_14 dX4_node_102 ?_
                  exact zs_iret C hr dX4_node_103
                · have hok := hok.2 c_13
                  refine zs_iload_n (k := 2) C dX4_node_104 rfl rfl ?_
                  refine zs_bipush (v := 7) C dX4_node_105 (by decide) ?_
                  refine zs_icmp_ne (tgt := 117) C dX4_node_107 (by decide) (fun c_15 => ?_) (fun c_15 => ?_)
                  · have hok := hok.1 c_15
                    refine zs_aload_n (k := 0) C dX4_node_110 rfl rfl ?_
                    refine gM_died C lkX4_36 dX4_node_111 ?_
                    refine zs_iload_n (k := 1) C dX4_node_114 rfl rfl ?_
                    obtain ⟨h_16, hok⟩ := hok
                    refine aM_died C h_16 dX4_node_115 ?_
                    exact zs_iret C hr dX4_node_116
                  · have hok := hok.2 c_15
                    refine zs_aload_n (k := 0) C dX4_node_117 rfl rfl ?_
                    refine gM_mark C lkX4_23 dX4_node_118 ?_
                    refine zs_iload_n (k := 1) C dX4_node_121 rfl rfl ?_
                    obtain ⟨h_17, hok⟩ := hok
                    refine aM_mark C h_17 dX4_node_122 ?_
                    refine zs_if_eq (tgt := 128) C dX4_node_123 (by decide) (fun c_18 => ?_) (fun c_18 => ?_)
                    · refine zs_iconst (v := 0) C dX4_node_128 (by decide) ?_
                      exact zs_iret C hr dX4_node_129
                    · refine zs_iconst (v := 1) C dX4_node_126 (by decide) ?_
                      exact zs_iret C hr dX4_node_127

def fn_X4_bucket (σ : zs_T) (x1 : Int32) : zs_O := (if fr_X4_in (zs_u σ 35 0 0) x1 0 15 = 0 then ((zs_u σ 35 0 0), (-1)) else ((zs_u σ 35 0 0), (zs_u σ 35 0 0) 31 (x1.toNatClampNeg)))
def ok_X4_bucket (σ : zs_T) (x1 : Int32) : Prop := (fr_X4_in (zs_u σ 35 0 0) x1 0 15 = 0 → True) ∧ (¬ (fr_X4_in (zs_u σ 35 0 0) x1 0 15 = 0) → vp_in x1 16 ∧ (True))
set_option maxHeartbeats 4000000 in
set_option maxRecDepth 100000 in
theorem m_X4_bucket {l : Launch} {D : va_G} {cI cZ : ClassId} {ad : Nat → Nat} (hJ : zs_J 31 ad) (d : Nat) (σ : zs_T) (x1 : Int32) (hok : ok_X4_bucket σ x1) : zs_M l D vwCl (tysM cI cZ) 31 ad (wM cI cZ ad) yX4_bucket (Cond.code yX4_bucket cX4_bucket 2 (some .int) :: zw_G) (zw_rm (d + 1)) [.ref (ad 0), .int x1] zs_vi σ (fn_X4_bucket σ x1) := by
  refine zs_ofZ (cc := cX4_bucket) (nL := 2) (ret := (some .int)) (lv0 := [(0, .ref (ad 0)), (1, .int x1)]) (by decide) rfl hJ (Nat.le_of_ble_eq_true rfl) rfl ?_
  intro p e s m args below meth c C hr
  unfold ok_X4_bucket at hok
  unfold fn_X4_bucket
  refine zs_aload_n (k := 0) C dX4_bucket_0 rfl rfl ?_
  refine zs_iconst (v := 0) C dX4_bucket_1 (by decide) ?_
  refine pM_thrownCode C lkX4_7 dX4_bucket_2 ?_
  refine zs_iload_n (k := 1) C dX4_bucket_5 rfl rfl ?_
  refine zs_iconst (v := 0) C dX4_bucket_6 (by decide) ?_
  refine zs_bipush (v := 15) C dX4_bucket_7 (by decide) ?_
  refine zk_callSi (As := [.int x1, .int 0, .int 15]) (rest := []) C pk_X4_in (by decide) lkX4_121 (m_X4_in hJ d (zs_u σ 35 0 0) x1 0 15) rfl rfl (Nat.le_of_ble_eq_true rfl) dX4_bucket_9 ?_
  refine zs_if_ne (tgt := 17) C dX4_bucket_12 (by decide) (fun c_1 => ?_) (fun c_1 => ?_)
  · have hok := hok.1 c_1
    refine zs_iconst (v := (-1)) C dX4_bucket_15 (by decide) ?_
    exact zs_iret C hr dX4_bucket_16
  · have hok := hok.2 c_1
    refine zs_aload_n (k := 0) C dX4_bucket_17 rfl rfl ?_
    refine gM_buckets C lkX4_39 dX4_bucket_18 ?_
    refine zs_iload_n (k := 1) C dX4_bucket_21 rfl rfl ?_
    obtain ⟨h_2, hok⟩ := hok
    refine aM_buckets C h_2 dX4_bucket_22 ?_
    exact zs_iret C hr dX4_bucket_23

def fn_X4_total_L50 : Nat → zs_T → Int32 → Int32 → Int32 → zs_O
  | 0, σ, _, _, _ => (σ, 0)
  | n + 1, σ, x1, x2, x3 => (if x3 < 64 then (if x1 = 3 then (if σ 0 (x3.toNatClampNeg) = 0 then (fn_X4_total_L50 n σ x1 (x2 + 1) (x3 + 1)) else (fn_X4_total_L50 n σ x1 x2 (x3 + 1))) else (if σ 0 (x3.toNatClampNeg) = 2 then (fn_X4_total_L50 n σ x1 (x2 + 1) (x3 + 1)) else (fn_X4_total_L50 n σ x1 x2 (x3 + 1)))) else (σ, x2))
def ok_X4_total_L50 : Nat → zs_T → Int32 → Int32 → Int32 → Prop
  | 0, _, _, _, _ => False
  | n + 1, σ, x1, x2, x3 => (x3 < 64 → vp_in x3 64 ∧ ((x1 = 3 → (σ 0 (x3.toNatClampNeg) = 0 → (ok_X4_total_L50 n σ x1 (x2 + 1) (x3 + 1))) ∧ (¬ (σ 0 (x3.toNatClampNeg) = 0) → (ok_X4_total_L50 n σ x1 x2 (x3 + 1)))) ∧ (¬ (x1 = 3) → (σ 0 (x3.toNatClampNeg) = 2 → (ok_X4_total_L50 n σ x1 (x2 + 1) (x3 + 1))) ∧ (¬ (σ 0 (x3.toNatClampNeg) = 2) → (ok_X4_total_L50 n σ x1 x2 (x3 + 1)))))) ∧ (¬ (x3 < 64) → True)
set_option maxHeartbeats 4000000 in
set_option maxRecDepth 100000 in
theorem lp_X4_total_L50 {p : Program} {l : Launch} {e : Env} {s : State} {m : MethodId} {args : Array Value} {below : List Frame} {meth : Method} {c : Code} {D : va_G} {cI cZ : ClassId} {ad : Nat → Nat} (C : zs_C p s m args meth c cX4_total 4 (Cond.code yX4_total cX4_total 4 (some .int) :: zw_G) yX4_total.cls D vwCl (tysM cI cZ) 31 ad) (hr : meth.sig.returnType = (some .int)) (d : Nat) : ∀ (n : Nat) (σ : zs_T) (x1 : Int32) (x2 : Int32) (x3 : Int32), ok_X4_total_L50 n σ x1 x2 x3 → zs_Z p l e (zw_rm (d)) s m args below meth c D vwCl 31 ad (wM cI cZ ad) 4 zs_vi (fn_X4_total_L50 n σ x1 x2 x3) σ 50 [(0, .ref (ad 0)), (1, .int x1), (2, .int x2), (3, .int x3)] [] := by
  have hJ := C.2.2.1
  intro n
  induction n with
  | zero => intro σ x1 x2 x3  hok; exact hok.elim
  | succ n ih =>
    intro σ x1 x2 x3  hok
    rw [ok_X4_total_L50] at hok
    rw [fn_X4_total_L50]
    refine zs_iload_n (k := 3) C dX4_total_50 rfl rfl ?_
    refine zs_bipush (v := 64) C dX4_total_51 (by decide) ?_
    refine zs_icmp_ge (tgt := 84) C dX4_total_53 (by decide) (fun c_5 => ?_) (fun c_5 => ?_)
    · have hok := hok.1 c_5
      refine zs_aload_n (k := 0) C dX4_total_56 rfl rfl ?_
      refine gM_sort C lkX4_13 dX4_total_57 ?_
      refine zs_iload_n (k := 3) C dX4_total_60 rfl rfl ?_
      obtain ⟨h_6, hok⟩ := hok
      refine aM_sort C h_6 dX4_total_61 ?_
      refine zs_iload_n (k := 1) C dX4_total_62 rfl rfl ?_
      refine zs_iconst (v := 3) C dX4_total_63 (by decide) ?_
      refine zs_icmp_ne (tgt := 71) C dX4_total_64 (by decide) (fun c_7 => ?_) (fun c_7 => ?_)
      · have hok := hok.1 c_7
        refine zs_iconst (v := 0) C dX4_total_67 (by decide) ?_
        refine zs_goto (tgt := 72) C dX4_total_68 (by decide) ?_
        refine zs_icmp_ne (tgt := 78) C dX4_total_72 (by decide) (fun c_8 => ?_) (fun c_8 => ?_)
        · have hok := hok.1 c_8
          refine zs_iinc (k := 2) (v := x2 + 1) (lv' := [(2, .int (x2 + 1)), (0, .ref (ad 0)), (1, .int x1), (3, .int x3)]) C dX4_total_75 rfl rfl (by decide) rfl ?_
          refine zs_iinc (k := 3) (v := x3 + 1) (lv' := [(3, .int (x3 + 1)), (2, .int (x2 + 1)), (0, .ref (ad 0)), (1, .int x1)]) C dX4_total_78 rfl rfl (by decide) rfl ?_
          refine zs_goto (tgt := 50) C dX4_total_81 (by decide) ?_
          exact zs_sub [2, 3, 1, 0] rfl (ih σ x1 (x2 + 1) (x3 + 1)  hok)
        · have hok := hok.2 c_8
          refine zs_iinc (k := 3) (v := x3 + 1) (lv' := [(3, .int (x3 + 1)), (0, .ref (ad 0)), (1, .int x1), (2, .int x2)]) C dX4_total_78 rfl rfl (by decide) rfl ?_
          refine zs_goto (tgt := 50) C dX4_total_81 (by decide) ?_
          exact zs_sub [1, 2, 3, 0] rfl (ih σ x1 x2 (x3 + 1)  hok)
      · have hok := hok.2 c_7
        refine zs_iconst (v := 2) C dX4_total_71 (by decide) ?_
        refine zs_icmp_ne (tgt := 78) C dX4_total_72 (by decide) (fun c_9 => ?_) (fun c_9 => ?_)
        · have hok := hok.1 c_9
          refine zs_iinc (k := 2) (v := x2 + 1) (lv' := [(2, .int (x2 + 1)), (0, .ref (ad 0)), (1, .int x1), (3, .int x3)]) C dX4_total_75 rfl rfl (by decide) rfl ?_
          refine zs_iinc (k := 3) (v := x3 + 1) (lv' := [(3, .int (x3 + 1)), (2, .int (x2 + 1)), (0, .ref (ad 0)), (1, .int x1)]) C dX4_total_78 rfl rfl (by decide) rfl ?_
          refine zs_goto (tgt := 50) C dX4_total_81 (by decide) ?_
          exact zs_sub [2, 3, 1, 0] rfl (ih σ x1 (x2 + 1) (x3 + 1)  hok)
        · have hok := hok.2 c_9
          refine zs_iinc (k := 3) (v := x3 + 1) (lv' := [(3, .int (x3 + 1)), (0, .ref (ad 0)), (1, .int x1), (2, .int x2)]) C dX4_total_78 rfl rfl (by decide) rfl ?_
          refine zs_goto (tgt := 50) C dX4_total_81 (by decide) ?_
          exact zs_sub [1, 2, 3, 0] rfl (ih σ x1 x2 (x3 + 1)  hok)
    · have hok := hok.2 c_5
      refine zs_iload_n (k := 2) C dX4_total_84 rfl rfl ?_
      exact zs_iret C hr dX4_total_85
def fn_X4_total (σ : zs_T) (x1 : Int32) : zs_O := (if x1 = 0 then ((zs_u σ 35 0 0), (zs_u σ 35 0 0) 32 0) else (if x1 = 1 then ((zs_u σ 35 0 0), (zs_u σ 35 0 0) 33 0) else (if x1 = 2 then ((zs_u σ 35 0 0), (zs_u σ 35 0 0) 34 0) else (if x1 = 3 then (fn_X4_total_L50 65 (zs_u σ 35 0 0) x1 0 0) else (if x1 = 4 then (fn_X4_total_L50 65 (zs_u σ 35 0 0) x1 0 0) else ((zs_u σ 35 0 0), (-1)))))))
def ok_X4_total (σ : zs_T) (x1 : Int32) : Prop := (x1 = 0 → True) ∧ (¬ (x1 = 0) → (x1 = 1 → True) ∧ (¬ (x1 = 1) → (x1 = 2 → True) ∧ (¬ (x1 = 2) → (x1 = 3 → (ok_X4_total_L50 65 (zs_u σ 35 0 0) x1 0 0)) ∧ (¬ (x1 = 3) → (x1 = 4 → (ok_X4_total_L50 65 (zs_u σ 35 0 0) x1 0 0)) ∧ (¬ (x1 = 4) → True)))))
set_option maxHeartbeats 4000000 in
set_option maxRecDepth 100000 in
theorem m_X4_total {l : Launch} {D : va_G} {cI cZ : ClassId} {ad : Nat → Nat} (hJ : zs_J 31 ad) (d : Nat) (σ : zs_T) (x1 : Int32) (hok : ok_X4_total σ x1) : zs_M l D vwCl (tysM cI cZ) 31 ad (wM cI cZ ad) yX4_total (Cond.code yX4_total cX4_total 4 (some .int) :: zw_G) (zw_rm (d)) [.ref (ad 0), .int x1] zs_vi σ (fn_X4_total σ x1) := by
  refine zs_ofZ (cc := cX4_total) (nL := 4) (ret := (some .int)) (lv0 := [(0, .ref (ad 0)), (1, .int x1)]) (by decide) rfl hJ (Nat.le_of_ble_eq_true rfl) rfl ?_
  intro p e s m args below meth c C hr
  unfold ok_X4_total at hok
  unfold fn_X4_total
  refine zs_aload_n (k := 0) C dX4_total_0 rfl rfl ?_
  refine zs_iconst (v := 0) C dX4_total_1 (by decide) ?_
  refine pM_thrownCode C lkX4_7 dX4_total_2 ?_
  refine zs_iload_n (k := 1) C dX4_total_5 rfl rfl ?_
  refine zs_if_ne (tgt := 14) C dX4_total_6 (by decide) (fun c_1 => ?_) (fun c_1 => ?_)
  · have hok := hok.1 c_1
    refine zs_aload_n (k := 0) C dX4_total_9 rfl rfl ?_
    refine gM_size C lkX4_42 dX4_total_10 ?_
    exact zs_iret C hr dX4_total_13
  · have hok := hok.2 c_1
    refine zs_iload_n (k := 1) C dX4_total_14 rfl rfl ?_
    refine zs_iconst (v := 1) C dX4_total_15 (by decide) ?_
    refine zs_icmp_ne (tgt := 24) C dX4_total_16 (by decide) (fun c_2 => ?_) (fun c_2 => ?_)
    · have hok := hok.1 c_2
      refine zs_aload_n (k := 0) C dX4_total_19 rfl rfl ?_
      refine gM_count C lkX4_45 dX4_total_20 ?_
      exact zs_iret C hr dX4_total_23
    · have hok := hok.2 c_2
      refine zs_iload_n (k := 1) C dX4_total_24 rfl rfl ?_
      refine zs_iconst (v := 2) C dX4_total_25 (by decide) ?_
      refine zs_icmp_ne (tgt := 34) C dX4_total_26 (by decide) (fun c_3 => ?_) (fun c_3 => ?_)
      · have hok := hok.1 c_3
        refine zs_aload_n (k := 0) C dX4_total_29 rfl rfl ?_
        refine gM_era C lkX4_48 dX4_total_30 ?_
        exact zs_iret C hr dX4_total_33
      · have hok := hok.2 c_3
        refine zs_iload_n (k := 1) C dX4_total_34 rfl rfl ?_
        refine zs_iconst (v := 3) C dX4_total_35 (by decide) ?_
        refine zs_icmp_eq (tgt := 46) C dX4_total_36 (by decide) (fun c_4 => ?_) (fun c_4 => ?_)
        · have hok := hok.1 c_4
          refine zs_iconst (v := 0) C dX4_total_46 (by decide) ?_
          refine zs_istore_n (lv' := [(2, .int 0), (0, .ref (ad 0)), (1, .int x1)]) C dX4_total_47 rfl (by decide) rfl ?_
          refine zs_iconst (v := 0) C dX4_total_48 (by decide) ?_
          refine zs_istore_n (lv' := [(3, .int 0), (2, .int 0), (0, .ref (ad 0)), (1, .int x1)]) C dX4_total_49 rfl (by decide) rfl ?_
          exact zs_sub [2, 3, 1, 0] rfl (lp_X4_total_L50 C hr d 65 (zs_u σ 35 0 0) x1 0 0  hok)
        · have hok := hok.2 c_4
          refine zs_iload_n (k := 1) C dX4_total_39 rfl rfl ?_
          refine zs_iconst (v := 4) C dX4_total_40 (by decide) ?_
          refine zs_icmp_eq (tgt := 46) C dX4_total_41 (by decide) (fun c_10 => ?_) (fun c_10 => ?_)
          · have hok := hok.1 c_10
            refine zs_iconst (v := 0) C dX4_total_46 (by decide) ?_
            refine zs_istore_n (lv' := [(2, .int 0), (0, .ref (ad 0)), (1, .int x1)]) C dX4_total_47 rfl (by decide) rfl ?_
            refine zs_iconst (v := 0) C dX4_total_48 (by decide) ?_
            refine zs_istore_n (lv' := [(3, .int 0), (2, .int 0), (0, .ref (ad 0)), (1, .int x1)]) C dX4_total_49 rfl (by decide) rfl ?_
            exact zs_sub [2, 3, 1, 0] rfl (lp_X4_total_L50 C hr d 65 (zs_u σ 35 0 0) x1 0 0  hok)
          · have hok := hok.2 c_10
            refine zs_iconst (v := (-1)) C dX4_total_44 (by decide) ?_
            exact zs_iret C hr dX4_total_45
