/-! the end of a search; places 4 and 5 -/
theorem zr_nd_congr {A B : Nat → Prop} {x y : Int32} (h : zr_nd A x) (e : y = x) (hAB : B = A) : zr_nd B y := by rw [e, hAB]; exact h
theorem zr_rf_congr {A B : Nat → Prop} {x y : Int32} (h : zr_rf A x) (e : y = x) (hAB : B = A) : zr_rf B y := by rw [e, hAB]; exact h
theorem zq_wev {τ : zs_T} {p : Nat} (hp : p < 4) (h : 0 < τ 30 p) : zr_ev (fr_X4_wanted τ (nI p)) := by
  unfold fr_X4_wanted
  rw [zq_c (by omega), if_pos h]
  exact zq_ev2 _
theorem zq_wod {τ : zs_T} {p : Nat} (hp : p < 4) (h : ¬ 0 < τ 30 p) : ¬ zr_ev (fr_X4_wanted τ (nI p)) := by
  unfold fr_X4_wanted
  rw [zq_c (by omega), if_neg h]
  exact zq_od2 _
theorem zq_d0 {d : Nat} (hd : d ≤ 4) : (0 < nI d) ↔ nI d ≠ 0 := by
  rw [show (0 : Int32) = nI 0 from rfl, nI_ltI (by omega) (by omega), Ne, nI_eq (by omega) (by omega)]
  omega
theorem zq_okw {τ : zs_T} {p d b : Nat} (hp : p < 4) (hB : zr_B τ p d b) : ok_X4_wanted τ (nI p) := by
  have hc : (nI p).toNatClampNeg = p := zq_c (by omega)
  have hv : vp_in (nI p) 4 := zq_in hp (by decide)
  obtain ⟨-, ⟨hd4, ed, -⟩, -⟩ := hB
  have e16 : 16 * nI p + nI d = nI (16 * p + d) := by rw [show (16 : Int32) = nI 16 from rfl, pk_mul, nI_add]
  unfold ok_X4_wanted
  refine ⟨hv, fun h => ⟨hv, ?_, zq_ok4t _ _, trivial⟩, fun h => ⟨hv, zq_ok4t _ _, trivial⟩⟩
  rw [hc, ed] at h
  rw [hc, ed, e16]
  have hd0 : 0 < d := by rw [show (0 : Int32) = nI 0 from rfl, nI_ltI (by omega) (by omega)] at h; exact h
  rw [show (1 : Int32) = nI 1 from rfl, pk_sub (by omega)]
  exact zq_in (by omega) (by decide)
theorem zr_over {N p d b : Nat} {τ : zs_T} (hI : zr_I N τ) (hp : p < 4) (hB : zr_B τ p d b) (hH : zr_H τ p) (hf : zr_nd (fun n => zr_L τ n ∧ zr_ev (τ 1 n)) (τ 17 p)) (hpr : zr_nd (zr_Pt τ p) (τ 18 p)) (hcu : zr_rf (zr_Pt τ p) (τ 19 p)) (fnd : Int32) (hfnd : ¬ fnd = 0 → zr_nd (fun c => zr_L τ c ∧ τ 1 c = fr_X4_wanted τ (nI p)) (τ 19 p) ∧ zr_rf (fun n => n < 64) (τ 20 p)) : zr_I (N + 1) (fn_X4_over τ (nI p) fnd).1 ∧ ok_X4_over τ (nI p) fnd := by
  have hc : (nI p).toNatClampNeg = p := zq_c (by omega)
  have hv : vp_in (nI p) 4 := zq_in hp (by decide)
  have hends := fun r => zr_ends hI.1 (fun q hq _ => hI.2 q hq) hB hp r
  have hends2 : ∀ r, zr_I (N + 1) (fn_X4_ends τ (nI p) r).1 := fun r => ⟨zr_G_mono (by omega) (hends r).1.1, (hends r).1.2⟩
  have hb : ∀ τ' : zs_T, τ' 1 = τ 1 → τ' 12 = τ 12 → τ' 30 = τ 30 → τ' 16 = τ 16 → τ' 27 = τ 27 → τ' 21 = τ 21 → τ' 24 = τ 24 → τ' 22 = τ 22 → zr_B τ' p d b := fun τ' a1 a2 a3 a4 a5 a6 a7 a8 => zr_B_congr hB a1 (by rw [a2]) (by rw [a3]) (by rw [a4]) (fun _ _ => by rw [a5]) (by rw [a6]; exact hB.2.2.1) (by rw [a7]; exact hB.2.2.2.1) (by rw [a8])
  have h7 : zr_I (N + 1) (zs_u τ 10 p 7) := by
    refine zr_loc (p := p) hI rfl rfl rfl rfl rfl rfl rfl rfl rfl rfl rfl rfl (fun q hq hne => by simp [zr_Q, zs_u, hne]) ?_
    exact zr_mk7 (hb _ rfl rfl rfl rfl rfl rfl rfl rfl) (by simp [zs_u]) hH (zr_D_of (τ := τ) rfl rfl rfl hf) (zr_nd_congr hpr rfl (zr_Pt_congr rfl rfl rfl rfl rfl rfl)) (zr_rf_congr hcu rfl (zr_Pt_congr rfl rfl rfl rfl rfl rfl))
  by_cases hd : 0 < τ 30 p
  · by_cases h0 : fnd = 0
    · constructor
      · unfold fn_X4_over
        rw [hc, if_pos hd, if_pos h0]
        exact h7
      · unfold ok_X4_over
        simp [hc, hv, hd, h0]
    · obtain ⟨c, ec, hcL, hcw⟩ := (hfnd h0).1
      constructor
      · unfold fn_X4_over
        rw [hc, if_pos hd, if_neg h0]
        show zr_I (N + 1) (zs_u (zs_u (zs_u τ 10 p 7) 10 p 9) 23 p (τ 19 p))
        refine zr_loc (p := p) hI rfl rfl rfl rfl rfl rfl rfl rfl rfl rfl rfl rfl (fun q hq hne => by simp [zr_Q, zs_u, hne]) ?_
        refine zr_mk9 (hb _ rfl rfl rfl rfl rfl rfl rfl rfl) (by simp [zs_u]) hH (zr_D_of (τ := τ) rfl rfl rfl hf) (zr_D_of (τ := τ) rfl rfl rfl ⟨c, by simp [zs_u, ec], hcL, by rw [hcw]; exact zq_wev hp hd⟩) ?_
        show τ 30 p ≠ 0
        intro q; rw [q] at hd; exact absurd hd (by decide)
      · unfold ok_X4_over
        simp [hc, hv, hd, h0]
  · by_cases hcl : τ 24 p = 0
    · by_cases ho0 : τ 11 p = 0
      · by_cases h0 : fnd = 0
        · constructor
          · unfold fn_X4_over
            rw [hc, if_neg hd, if_pos hcl, if_pos ho0, if_pos h0]
            exact hends2 _
          · unfold ok_X4_over
            simp [hc, hv, hd, hcl, ho0, h0, (hends (-1)).2]
        · obtain ⟨c, ec, hcL, hcw⟩ := (hfnd h0).1
          have hcc : (nI c).toNatClampNeg = c := zq_c (by have := hcL.1; omega)
          have hvc : vp_in (nI c) 64 := zq_in hcL.1 (by decide)
          constructor
          · unfold fn_X4_over
            rw [hc, if_neg hd, if_pos hcl, if_pos ho0, if_neg h0]
            exact hends2 _
          · unfold ok_X4_over
            simp [hc, hv, hd, hcl, ho0, h0, ec, hcc, hvc, (hends (τ 5 c)).2]
      · by_cases ho1 : τ 11 p = 1
        · by_cases h0 : fnd = 0
          · constructor
            · unfold fn_X4_over
              rw [hc, if_neg hd, if_pos hcl, if_neg ho0, if_pos ho1, if_pos h0]
              exact h7
            · unfold ok_X4_over
              simp [hc, hv, hd, hcl, ho1, h0]
          · constructor
            · unfold fn_X4_over
              rw [hc, if_neg hd, if_pos hcl, if_neg ho0, if_pos ho1, if_neg h0]
              exact hends2 _
            · unfold ok_X4_over
              simp [hc, hv, hd, hcl, ho1, h0, (hends 0).2]
        · by_cases h0 : fnd = 0
          · constructor
            · unfold fn_X4_over
              rw [hc, if_neg hd, if_pos hcl, if_neg ho0, if_neg ho1, if_pos h0]
              exact hends2 _
            · unfold ok_X4_over
              simp [hc, hv, hd, hcl, ho0, ho1, h0, (hends (-1)).2]
          · obtain ⟨⟨c, ec, hcL, hcw⟩, hnx⟩ := hfnd h0
            constructor
            · unfold fn_X4_over
              rw [hc, if_neg hd, if_pos hcl, if_neg ho0, if_neg ho1, if_neg h0]
              refine zr_loc (p := p) hI rfl rfl rfl rfl rfl rfl rfl rfl rfl rfl rfl rfl (fun q hq hne => by simp [zr_Q, zs_u, hne]) ?_
              refine zr_mk10 (hb _ rfl rfl rfl rfl rfl rfl rfl rfl) (by simp [zs_u]) hH (zr_D_of (τ := τ) rfl rfl rfl hf) (zr_nd_congr hpr rfl (zr_Pt_congr rfl rfl rfl rfl rfl rfl)) ?_ hnx ?_
              · rcases hcu with h1 | h1
                · rw [ec] at h1; exact absurd h1 (zq_m1 (by have := hcL.1; omega))
                · exact zr_nd_congr h1 rfl (zr_Pt_congr rfl rfl rfl rfl rfl rfl)
              · intro c' hc' e'
                have e' : τ 19 p = nI c' := e'
                have : c = c' := (nI_eq (by have := hcL.1; omega) (by omega)).mp (ec.symm.trans e')
                subst this
                show ¬ zr_ev (τ 1 c)
                rw [hcw]; exact zq_wod hp hd
            · unfold ok_X4_over
              simp [hc, hv, hd, hcl, ho0, ho1, h0]
    · constructor
      · unfold fn_X4_over
        rw [hc, if_neg hd, if_neg hcl]
        refine zr_loc (p := p) hI rfl rfl rfl rfl rfl rfl rfl rfl rfl rfl rfl rfl (fun q hq hne => by simp [zr_Q, zs_u, hne]) ?_
        exact zr_mk12 (hb _ rfl rfl rfl rfl rfl rfl rfl rfl) (by simp [zs_u]) hH
      · unfold ok_X4_over
        simp [hc, hv, hd, hcl]
