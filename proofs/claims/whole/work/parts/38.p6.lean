/-! places 6 and 11 -/
theorem zq_retire {σ : zs_T} {p c r : Nat} (hp : p < 4) (hc : c < 64) (hr : r ≤ 64) (e : σ 29 p = nI r) : (fn_X4_retire σ (nI p) (nI c)).1 = zs_u (zs_u (zs_u (zs_u (zs_u σ 0 c 2) 7 c (σ 34 0)) 34 0 (σ 34 0 + 1)) 28 (64 * p + r) (nI c)) 29 p (nI (r + 1)) := by
  have hcp : (nI p).toNatClampNeg = p := zq_c (by omega)
  have hcc : (nI c).toNatClampNeg = c := zq_c (by omega)
  have e64 : 64 * nI p + nI r = nI (64 * p + r) := by rw [show (64 : Int32) = nI 64 from rfl, pk_mul, nI_add]
  have hc64 : (nI (64 * p + r)).toNatClampNeg = 64 * p + r := zq_c (by omega)
  unfold fn_X4_retire
  rw [hcp, hcc]
  show zs_u (zs_u (zs_u (zs_u (zs_u σ 0 c 2) 7 c (σ 34 0)) 34 0 (σ 34 0 + 1)) 28 (64 * nI p + σ 29 p).toNatClampNeg (nI c)) 29 p (σ 29 p + 1) = _
  rw [e, e64, hc64, nI_1]
theorem zq_okretire {σ : zs_T} {p c r : Nat} (hp : p < 4) (hc : c < 64) (hr : r < 64) (e : σ 29 p = nI r) : ok_X4_retire σ (nI p) (nI c) := by
  have hcp : (nI p).toNatClampNeg = p := zq_c (by omega)
  have hcc : (nI c).toNatClampNeg = c := zq_c (by omega)
  have hv : vp_in (nI p) 4 := zq_in hp (by decide)
  have hvc : vp_in (nI c) 64 := zq_in hc (by decide)
  have e64 : 64 * nI p + nI r = nI (64 * p + r) := by rw [show (64 : Int32) = nI 64 from rfl, pk_mul, nI_add]
  have hv2 : vp_in (nI (64 * p + r)) 256 := zq_in (by omega) (by decide)
  unfold ok_X4_retire
  simp [hcp, hcc, hv, hvc, zs_u, e, e64, hv2]
theorem zq_changeT {σ : zs_T} {a : Nat} {w v m : Int32} (ha : a < 64) (h1 : σ 2 a = w) (h2 : σ 3 a = 0) : fn_X4_change σ (nI a) w v m = (zs_u (zs_u σ 2 a v) 3 a m, 1) := by
  unfold fn_X4_change
  rw [zq_c (by omega), if_pos h1, if_pos h2]
theorem zq_changeF {σ : zs_T} {a : Nat} {w v m : Int32} (ha : a < 64) (h : ¬ (σ 2 a = w ∧ σ 3 a = 0)) : fn_X4_change σ (nI a) w v m = (σ, 0) := by
  unfold fn_X4_change
  rw [zq_c (by omega)]
  by_cases h1 : σ 2 a = w
  · rw [if_pos h1, if_neg (fun h2 => h ⟨h1, h2⟩)]
  · rw [if_neg h1]
theorem zq_okchange {σ : zs_T} {a : Nat} {w v m : Int32} (ha : a < 64) (hm : zs_B m) : ok_X4_change σ (nI a) w v m := by
  have hva : vp_in (nI a) 64 := zq_in ha (by decide)
  unfold ok_X4_change
  simp [hva, hm]
theorem zi_6 {N p : Nat} {τ : zs_T} (hI : zr_I N τ) (hN : N < 1000000) (hp : p < 4) (h : τ 10 p = 6) : zr_I (N + 1) (fn_X4_oneStep τ (nI p)).1 ∧ ok_X4_oneStep τ (nI p) := by
  have hc : (nI p).toNatClampNeg = p := zq_c (by omega)
  have hv : vp_in (nI p) 4 := zq_in hp (by decide)
  obtain ⟨d, b, hB, -, -⟩ := (hI.2 p hp).B
  have hH := (hI.2 p hp).H6 h
  have hf := (hI.2 p hp).f6 h
  have hpr := (hI.2 p hp).pr6 h
  obtain ⟨hcu, hnx⟩ := (hI.2 p hp).cu6 h
  have hs := (hI.2 p hp).s6 h
  have hm := (hI.2 p hp).m6 h
  obtain ⟨a, ea, haP⟩ := id hpr
  obtain ⟨c, ec, hcP⟩ := id hcu
  have hal := haP.lt
  have hcl := hcP.lt
  obtain ⟨hmc, hnc⟩ := hm c hcl ec
  obtain ⟨r, hr, er, -⟩ := hI.1.2.2.2.2.2.2.2.2.2.2.1 p hp
  have eif : fn_X4_oneStep τ (nI p) = (if (fn_X4_change (zs_u τ 10 p 3) (τ 18 p) (τ 19 p) (τ 20 p) 0).2 = 0 then ((fn_X4_change (zs_u τ 10 p 3) (τ 18 p) (τ 19 p) (τ 20 p) 0).1, 0) else ((zs_u (zs_u (fn_X4_retire (fn_X4_change (zs_u τ 10 p 3) (τ 18 p) (τ 19 p) (τ 20 p) 0).1 (nI p) ((fn_X4_change (zs_u τ 10 p 3) (τ 18 p) (τ 19 p) (τ 20 p) 0).1 19 p)).1 19 p ((fn_X4_retire (fn_X4_change (zs_u τ 10 p 3) (τ 18 p) (τ 19 p) (τ 20 p) 0).1 (nI p) ((fn_X4_change (zs_u τ 10 p 3) (τ 18 p) (τ 19 p) (τ 20 p) 0).1 19 p)).1 20 p)) 10 p 4), 0)) := by
    unfold fn_X4_oneStep
    rw [hc, if_neg (by rw [h]; decide), if_neg (by rw [h]; decide), if_neg (by rw [h]; decide), if_neg (by rw [h]; decide), if_neg (by rw [h]; decide), if_pos h]
    rfl
  rw [eif, ea, ec]
  have hokc : ok_X4_change (zs_u τ 10 p 3) (nI a) (nI c) (τ 20 p) 0 := zq_okchange hal (Or.inl rfl)
  by_cases hch : τ 2 a = nI c ∧ τ 3 a = 0
  · have ech : fn_X4_change (zs_u τ 10 p 3) (nI a) (nI c) (τ 20 p) 0 = (zs_u (zs_u (zs_u τ 10 p 3) 2 a (τ 20 p)) 3 a 0, 1) := zq_changeT hal hch.1 hch.2
    have ert := zq_retire (σ := zs_u (zs_u (zs_u τ 10 p 3) 2 a (τ 20 p)) 3 a 0) hp hcl hr er
    have haL := haP.L hI.1 hch.2
    have ec1 : (zs_u (zs_u (zs_u τ 10 p 3) 2 a (τ 20 p)) 3 a 0) 19 p = nI c := ec
    have hun := zr_unlink (t2 := zs_u (zs_u (zs_u (zs_u (zs_u (zs_u (zs_u (zs_u (zs_u (zs_u τ 10 p 3) 2 a (τ 20 p)) 3 a 0) 0 c 2) 7 c (τ 34 0)) 34 0 (τ 34 0 + 1)) 28 (64 * p + r) (nI c)) 29 p (nI (r + 1))) 19 p (τ 20 p)) 10 p 4) hI.1 hN hp haL hch.1 hch.2 hcl hmc hnc er hr (fun k => by simp [zs_u]) (fun k => by simp [zs_u]) (fun k => by simp [zs_u]) (fun k => by simp [zs_u]) (fun k => by simp [zs_u]) (fun k => by simp [zs_u]) (by simp [zs_u]) rfl rfl rfl rfl rfl
    obtain ⟨hr63, hcL, hG', hK, eL⟩ := hun
    constructor
    · rw [ech, if_neg (show ¬ ((1 : Int32) = 0) by decide)]
      show zr_I (N + 1) (zs_u (zs_u (fn_X4_retire (zs_u (zs_u (zs_u τ 10 p 3) 2 a (τ 20 p)) 3 a 0) (nI p) ((zs_u (zs_u (zs_u τ 10 p 3) 2 a (τ 20 p)) 3 a 0) 19 p)).1 19 p ((fn_X4_retire (zs_u (zs_u (zs_u τ 10 p 3) 2 a (τ 20 p)) 3 a 0) (nI p) ((zs_u (zs_u (zs_u τ 10 p 3) 2 a (τ 20 p)) 3 a 0) 19 p)).1 20 p)) 10 p 4)
      rw [ec1, ert]
      refine ⟨hG', fun q hq => ?_⟩
      by_cases hqp : q = p
      · subst hqp
        have h0 : τ 10 q ≠ 0 := by rw [h]; decide
        have pk := fun n (hn : zr_Pt τ q n) => zr_Pt_keep (hK q hq) hn h0 hH.1 rfl (Int32.le_refl _)
        refine zr_mk4 (zr_B_congr hB rfl rfl rfl rfl (fun _ _ => rfl) hB.2.2.1 hB.2.2.2.1 rfl) (by simp [zs_u]) ⟨Int32.le_trans hH.1 (hK q hq).2.2.2.2.2, Int32.le_trans hH.2 (hK q hq).2.2.2.2.2⟩ (hf.imp (fun n hn => zr_D_keep hI.1 (hK q hq) hn)) (zr_nd_congr (hpr.imp pk) rfl rfl) ?_
        rcases hs c hcl ec with h2 | h2
        · rw [hcL.2.1] at h2; exact absurd h2 (by decide)
        · exact zr_rf_congr (h2.imp pk) (by simp [zs_u]) rfl
      · exact zr_P_keep hI.1 (hK q hq) (by simp [zr_Q, zs_u, hqp]) hq (hI.2 q hq)
    · unfold ok_X4_oneStep
      have hokr : ok_X4_retire (zs_u (zs_u (zs_u τ 10 p 3) 2 a (τ 20 p)) 3 a 0) (nI p) (nI c) := zq_okretire hp hcl hr63 er
      have e18 : (zs_u τ 10 p 3) 18 p = nI a := ea
      have e19 : (zs_u τ 10 p 3) 19 p = nI c := ec
      have e20 : (zs_u τ 10 p 3) 20 p = τ 20 p := rfl
      simp only [hc, h, hv, e18, e19, e20, ech, ec1]
      simp [hokc, hokr]
  · have ech : fn_X4_change (zs_u τ 10 p 3) (nI a) (nI c) (τ 20 p) 0 = (zs_u τ 10 p 3, 0) := zq_changeF hal hch
    constructor
    · rw [ech, if_pos rfl]
      refine zr_loc (p := p) hI rfl rfl rfl rfl rfl rfl rfl rfl rfl rfl rfl rfl (fun q hq hne => by simp [zr_Q, zs_u, hne]) ?_
      exact zr_mk3 (zr_B_congr hB rfl rfl rfl rfl (fun _ _ => rfl) hB.2.2.1 hB.2.2.2.1 rfl) (by simp [zs_u]) hH (zr_D_of (τ := τ) rfl rfl rfl hf)
    · unfold ok_X4_oneStep
      have e18 : (zs_u τ 10 p 3) 18 p = nI a := ea
      have e19 : (zs_u τ 10 p 3) 19 p = nI c := ec
      have e20 : (zs_u τ 10 p 3) 20 p = τ 20 p := rfl
      simp only [hc, h, hv, e18, e19, e20, ech]
      simp [hokc]
theorem zi_11 {N p : Nat} {τ : zs_T} (hI : zr_I N τ) (hN : N < 1000000) (hp : p < 4) (h : τ 10 p = 11) : zr_I (N + 1) (fn_X4_oneStep τ (nI p)).1 ∧ ok_X4_oneStep τ (nI p) := by
  have hc : (nI p).toNatClampNeg = p := zq_c (by omega)
  have hv : vp_in (nI p) 4 := zq_in hp (by decide)
  obtain ⟨d, b, hB, -, -⟩ := (hI.2 p hp).B
  have hH := (hI.2 p hp).H11 h
  have hf := (hI.2 p hp).f11 h
  have hpr := (hI.2 p hp).pr11 h
  obtain ⟨hcu, hnx⟩ := (hI.2 p hp).cu11 h
  have hm := (hI.2 p hp).m11 h
  obtain ⟨a, ea, haP⟩ := id hpr
  obtain ⟨c, ec, hcP⟩ := id hcu
  have hal := haP.lt
  have hcl := hcP.lt
  obtain ⟨hmc, hnc⟩ := hm c hcl ec
  obtain ⟨r, hr, er, -⟩ := hI.1.2.2.2.2.2.2.2.2.2.2.1 p hp
  have eif : fn_X4_oneStep τ (nI p) = (if (fn_X4_change τ (τ 18 p) (τ 19 p) (τ 20 p) 0).2 = 0 then ((zs_u (zs_u (fn_X4_change τ (τ 18 p) (τ 19 p) (τ 20 p) 0).1 24 p 1) 10 p 3), 0) else ((zs_u (fn_X4_retire (fn_X4_change τ (τ 18 p) (τ 19 p) (τ 20 p) 0).1 (nI p) ((fn_X4_change τ (τ 18 p) (τ 19 p) (τ 20 p) 0).1 19 p)).1 10 p 12), 0)) := by
    unfold fn_X4_oneStep
    rw [hc, if_neg (by rw [h]; decide), if_neg (by rw [h]; decide), if_neg (by rw [h]; decide), if_neg (by rw [h]; decide), if_neg (by rw [h]; decide), if_neg (by rw [h]; decide), if_neg (by rw [h]; decide), if_neg (by rw [h]; decide), if_neg (by rw [h]; decide), if_neg (by rw [h]; decide), if_pos h]
  rw [eif, ea, ec]
  have hokc : ok_X4_change τ (nI a) (nI c) (τ 20 p) 0 := zq_okchange hal (Or.inl rfl)
  by_cases hch : τ 2 a = nI c ∧ τ 3 a = 0
  · have ech : fn_X4_change τ (nI a) (nI c) (τ 20 p) 0 = (zs_u (zs_u τ 2 a (τ 20 p)) 3 a 0, 1) := zq_changeT hal hch.1 hch.2
    have ert := zq_retire (σ := zs_u (zs_u τ 2 a (τ 20 p)) 3 a 0) hp hcl hr er
    have haL := haP.L hI.1 hch.2
    have ec1 : (zs_u (zs_u τ 2 a (τ 20 p)) 3 a 0) 19 p = nI c := ec
    have hun := zr_unlink (t2 := zs_u (zs_u (zs_u (zs_u (zs_u (zs_u (zs_u (zs_u τ 2 a (τ 20 p)) 3 a 0) 0 c 2) 7 c (τ 34 0)) 34 0 (τ 34 0 + 1)) 28 (64 * p + r) (nI c)) 29 p (nI (r + 1))) 10 p 12) hI.1 hN hp haL hch.1 hch.2 hcl hmc hnc er hr (fun k => by simp [zs_u]) (fun k => by simp [zs_u]) (fun k => by simp [zs_u]) (fun k => by simp [zs_u]) (fun k => by simp [zs_u]) (fun k => by simp [zs_u]) (by simp [zs_u]) rfl rfl rfl rfl rfl
    obtain ⟨hr63, hcL, hG', hK, eL⟩ := hun
    constructor
    · rw [ech, if_neg (show ¬ ((1 : Int32) = 0) by decide)]
      show zr_I (N + 1) (zs_u (fn_X4_retire (zs_u (zs_u τ 2 a (τ 20 p)) 3 a 0) (nI p) ((zs_u (zs_u τ 2 a (τ 20 p)) 3 a 0) 19 p)).1 10 p 12)
      rw [ec1, ert]
      refine ⟨hG', fun q hq => ?_⟩
      by_cases hqp : q = p
      · subst hqp
        exact zr_mk12 (zr_B_congr hB rfl rfl rfl rfl (fun _ _ => rfl) hB.2.2.1 hB.2.2.2.1 rfl) (by simp [zs_u]) ⟨Int32.le_trans hH.1 (hK q hq).2.2.2.2.2, Int32.le_trans hH.2 (hK q hq).2.2.2.2.2⟩
      · exact zr_P_keep hI.1 (hK q hq) (by simp [zr_Q, zs_u, hqp]) hq (hI.2 q hq)
    · unfold ok_X4_oneStep
      have hokr : ok_X4_retire (zs_u (zs_u τ 2 a (τ 20 p)) 3 a 0) (nI p) (nI c) := zq_okretire hp hcl hr63 er
      simp only [hc, h, hv, ea, ec, ech, ec1]
      simp [hokc, hokr]
  · have ech : fn_X4_change τ (nI a) (nI c) (τ 20 p) 0 = (τ, 0) := zq_changeF hal hch
    constructor
    · rw [ech, if_pos rfl]
      refine zr_loc (p := p) hI rfl rfl rfl rfl rfl rfl rfl rfl rfl rfl rfl rfl (fun q hq hne => by simp [zr_Q, zs_u, hne]) ?_
      exact zr_mk3 (zr_B_congr hB rfl rfl rfl rfl (fun _ _ => rfl) hB.2.2.1 (by right; simp [zs_u]) rfl) (by simp [zs_u]) hH (zr_D_of (τ := τ) rfl rfl rfl hf)
    · unfold ok_X4_oneStep
      simp only [hc, h, hv, ea, ec, ech]
      simp [hokc]
