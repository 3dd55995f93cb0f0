/-! places 4 and 5 -/
theorem zi_4 {N p : Nat} {τ : zs_T} (hI : zr_I N τ) (hp : p < 4) (h : τ 10 p = 4) : zr_I (N + 1) (fn_X4_oneStep τ (nI p)).1 ∧ ok_X4_oneStep τ (nI p) := by
  have hc : (nI p).toNatClampNeg = p := zq_c (by omega)
  have hv : vp_in (nI p) 4 := zq_in hp (by decide)
  obtain ⟨d, b, hB, -, -⟩ := (hI.2 p hp).B
  have hH := (hI.2 p hp).H4 h
  have hf := (hI.2 p hp).f4 h
  have hpr := (hI.2 p hp).pr4 h
  have hcu := (hI.2 p hp).cu4 h
  have eif : fn_X4_oneStep τ (nI p) = (if τ 19 p < 0 then ((fn_X4_over τ (nI p) 0).1, 0) else (if (fn_X4_reads τ (nI p)).2 = 0 then ((fn_X4_reads τ (nI p)).1, 0) else ((zs_u (zs_u (zs_u (fn_X4_reads τ (nI p)).1 20 p (((fn_X4_reads τ (nI p)).1) 2 ((((fn_X4_reads τ (nI p)).1) 19 p).toNatClampNeg))) 21 p ((fn_X4_reads τ (nI p)).1 3 ((((fn_X4_reads τ (nI p)).1) 19 p).toNatClampNeg))) 10 p 5), 0))) := by
    unfold fn_X4_oneStep
    rw [hc, if_neg (by rw [h]; decide), if_neg (by rw [h]; decide), if_neg (by rw [h]; decide), if_pos h]
    rfl
  rw [eif]
  rcases hcu with hcu | ⟨c, ec, hcP⟩
  · have hov := zr_over hI hp hB hH hf hpr (Or.inl hcu) 0 (fun h => absurd rfl h)
    constructor
    · rw [if_pos (by rw [hcu]; decide)]
      exact hov.1
    · unfold ok_X4_oneStep
      simp [hc, h, hv, hcu, hov.2]
  · have hcl := hcP.lt
    have hcc : (nI c).toNatClampNeg = c := zq_c (by omega)
    have hvc : vp_in (nI c) 64 := zq_in hcl (by decide)
    have hcn : ¬ nI c < 0 := zq_ge (by omega)
    rw [if_neg (by rw [ec]; exact hcn)]
    by_cases he : τ 15 p = τ 34 0
    · have er : fn_X4_reads τ (nI p) = (τ, 1) := by unfold fn_X4_reads; rw [hc, if_pos he]
      constructor
      · rw [er, if_neg (show ¬ ((1 : Int32) = 0) by decide)]
        show zr_I (N + 1) (zs_u (zs_u (zs_u τ 20 p (τ 2 (τ 19 p).toNatClampNeg)) 21 p (τ 3 (τ 19 p).toNatClampNeg)) 10 p 5)
        rw [ec, hcc]
        have hm3 := hI.1.1 c hcl
        refine zr_loc (p := p) hI rfl rfl rfl rfl rfl rfl rfl rfl rfl rfl rfl rfl (fun q hq hne => by simp [zr_Q, zs_u, hne]) ?_
        have key : ∀ n, zr_L τ n → zr_Pt τ p n := fun n hn => ⟨Or.inl hn, by rw [he]; exact hI.1.2.2.2.2.2.2.2.2.2.2.2.2.2.1 n hn.1⟩
        have e19 : ∀ c', c' < 64 → (zs_u (zs_u (zs_u τ 20 p (τ 2 c)) 21 p (τ 3 c)) 10 p 5) 19 p = nI c' → c' = c := fun c' hc' e' => by
          have e' : τ 19 p = nI c' := e'
          exact ((nI_eq (by omega) (by omega)).mp (ec.symm.trans e')).symm
        refine zr_mk5 (zr_B_congr hB rfl rfl rfl rfl (fun _ _ => rfl) (by simpa [zs_u] using hm3) hB.2.2.2.1 rfl) (by simp [zs_u]) hH (zr_D_of (τ := τ) rfl rfl rfl hf) (zr_nd_congr hpr rfl (zr_Pt_congr rfl rfl rfl rfl rfl rfl)) (zr_nd_congr (A := zr_Pt τ p) (x := τ 19 p) ⟨c, ec, hcP⟩ rfl (zr_Pt_congr rfl rfl rfl rfl rfl rfl)) ?_ ?_ ?_
        · have := hI.1.2.1 c hcl
          simpa [zs_u] using this
        · intro c' hc' e'
          have := e19 c' hc' e'
          subst this
          rcases hcP.1 with hL | ⟨-, h2, -⟩
          · refine Or.inr (zr_rf_congr (A := zr_Pt τ p) ((hI.1.2.2.1 c' hL).imp key) (by simp [zs_u]) (zr_Pt_congr rfl rfl rfl rfl rfl rfl))
          · exact Or.inl h2
        · intro h21 c' hc' e'
          have := e19 c' hc' e'
          subst this
          exact ⟨by simpa [zs_u] using h21, by simp [zs_u]⟩
      · unfold ok_X4_oneStep ok_X4_reads
        have hm3 := hI.1.1 c hcl
        simp [hc, h, hv, er, zs_u, ec, hvc, hcc, hcn, hm3]
    · have er : fn_X4_reads τ (nI p) = (zs_u τ 15 p (τ 34 0), 0) := by unfold fn_X4_reads; rw [hc, if_neg he]
      constructor
      · rw [er, if_pos rfl]
        refine zr_loc (p := p) hI rfl rfl rfl rfl rfl rfl rfl rfl rfl rfl rfl rfl (fun q hq hne => by simp [zr_Q, zs_u, hne]) ?_
        have hK : zr_K τ (zs_u τ 15 p (τ 34 0)) p := zr_K_of rfl rfl rfl rfl rfl rfl rfl rfl
        have pk : ∀ n, zr_Pt τ p n → zr_Pt (zs_u τ 15 p (τ 34 0)) p n := fun n hn => zr_Pt_keep hK hn (by rw [h]; decide) hH.1 rfl (by simpa [zs_u] using hH.2)
        refine zr_mk4 (zr_B_congr hB rfl rfl rfl rfl (fun _ _ => rfl) hB.2.2.1 hB.2.2.2.1 rfl) h ⟨hH.1, by simp [zs_u]⟩ (zr_D_of (τ := τ) rfl rfl rfl hf) (hpr.imp pk) (Or.inr ⟨c, ec, pk c hcP⟩)
      · unfold ok_X4_oneStep ok_X4_reads
        simp [hc, h, hv, er, zs_u, ec, hvc, hcc, hcn]
theorem zi_5 {N p : Nat} {τ : zs_T} (hI : zr_I N τ) (hp : p < 4) (h : τ 10 p = 5) : zr_I (N + 1) (fn_X4_oneStep τ (nI p)).1 ∧ ok_X4_oneStep τ (nI p) := by
  have hc : (nI p).toNatClampNeg = p := zq_c (by omega)
  have hv : vp_in (nI p) 4 := zq_in hp (by decide)
  obtain ⟨d, b, hB, -, -⟩ := (hI.2 p hp).B
  have hH := (hI.2 p hp).H5 h
  have hf := (hI.2 p hp).f5 h
  have hpr := (hI.2 p hp).pr5 h
  obtain ⟨hcu, hnx⟩ := (hI.2 p hp).cu5 h
  have hs := (hI.2 p hp).s5 h
  have hm := (hI.2 p hp).m5 h
  obtain ⟨a, ea, haP⟩ := id hpr
  obtain ⟨c, ec, hcP⟩ := id hcu
  have hal := haP.lt
  have hcl := hcP.lt
  have hca : (nI a).toNatClampNeg = a := zq_c (by omega)
  have hva : vp_in (nI a) 64 := zq_in hal (by decide)
  have hcc : (nI c).toNatClampNeg = c := zq_c (by omega)
  have hvc : vp_in (nI c) 64 := zq_in hcl (by decide)
  have hokw := zq_okw hp hB
  have eif : fn_X4_oneStep τ (nI p) = ((fn_X4_look τ (nI p)).1, 0) := by
    unfold fn_X4_oneStep
    rw [hc, if_neg (by rw [h]; decide), if_neg (by rw [h]; decide), if_neg (by rw [h]; decide), if_neg (by rw [h]; decide), if_pos h]
  have hok1 : ok_X4_look τ (nI p) → ok_X4_oneStep τ (nI p) := by
    intro hl
    unfold ok_X4_oneStep
    simp [hc, h, hv, hl]
  have hbc : ∀ τ' : zs_T, τ' 1 = τ 1 → τ' 12 = τ 12 → τ' 30 = τ 30 → τ' 16 = τ 16 → τ' 27 = τ 27 → τ' 21 = τ 21 → τ' 24 = τ 24 → τ' 22 = τ 22 → zr_B τ' p d b := fun τ' a1 a2 a3 a4 a5 a6 a7 a8 => zr_B_congr hB a1 (by rw [a2]) (by rw [a3]) (by rw [a4]) (fun _ _ => by rw [a5]) (by rw [a6]; exact hB.2.2.1) (by rw [a7]; exact hB.2.2.2.1) (by rw [a8])
  have h3 : zr_I (N + 1) (zs_u τ 10 p 3) := by
    refine zr_loc (p := p) hI rfl rfl rfl rfl rfl rfl rfl rfl rfl rfl rfl rfl (fun q hq hne => by simp [zr_Q, zs_u, hne]) ?_
    exact zr_mk3 (hbc _ rfl rfl rfl rfl rfl rfl rfl rfl) (by simp [zs_u]) hH (zr_D_of (τ := τ) rfl rfl rfl hf)
  rw [eif]
  suffices hh : zr_I (N + 1) (fn_X4_look τ (nI p)).1 ∧ ok_X4_look τ (nI p) from ⟨hh.1, hok1 hh.2⟩
  by_cases hn : τ 2 a = τ 19 p
  · by_cases hma : τ 3 a = 0
    · have haL := haP.L hI.1 hma
      have hcL : zr_L τ c := by
        rcases hI.1.2.2.1 a haL with h1 | ⟨n, h1, h2⟩
        · rw [hn, ec] at h1; exact absurd h1 (zq_m1 (by omega))
        · rw [hn, ec] at h1
          have := (nI_eq (by omega) (by have := h2.1; omega)).mp h1
          subst this; exact h2
      by_cases h21 : τ 21 p = 0
      · by_cases hlt : τ 1 c < fr_X4_wanted τ (nI p)
        · constructor
          · unfold fn_X4_look
            rw [hc, ea, hca, if_pos hn, if_pos hma, if_pos h21, ec, hcc, if_pos hlt]
            show zr_I (N + 1) (zs_u (zs_u (zs_u τ 18 p (nI c)) 19 p (τ 20 p)) 10 p 4)
            refine zr_loc (p := p) hI rfl rfl rfl rfl rfl rfl rfl rfl rfl rfl rfl rfl (fun q hq hne => by simp [zr_Q, zs_u, hne]) ?_
            refine zr_mk4 (hbc _ rfl rfl rfl rfl rfl rfl rfl rfl) (by simp [zs_u]) hH (zr_D_of (τ := τ) rfl rfl rfl hf) (zr_nd_congr (A := zr_Pt τ p) (x := nI c) ⟨c, rfl, hcP⟩ (by simp [zs_u]) (zr_Pt_congr rfl rfl rfl rfl rfl rfl)) ?_
            rcases hs c hcl ec with h2 | h2
            · rw [hcL.2.1] at h2; exact absurd h2 (by decide)
            · exact zr_rf_congr h2 (by simp [zs_u]) (zr_Pt_congr rfl rfl rfl rfl rfl rfl)
          · unfold ok_X4_look
            rw [ec] at hn
            simp [hc, hv, ea, hca, hva, ec, hcc, hvc, hn, hma, h21, hlt, hokw]
        · by_cases heq : τ 1 c = fr_X4_wanted τ (nI p)
          · have hov := zr_over hI hp hB hH hf hpr (Or.inr hcu) 1 (fun _ => ⟨⟨c, ec, hcL, heq⟩, hnx⟩)
            constructor
            · unfold fn_X4_look
              rw [hc, ea, hca, if_pos hn, if_pos hma, if_pos h21, ec, hcc, if_neg hlt, if_pos heq]
              exact hov.1
            · unfold ok_X4_look
              rw [ec] at hn
              have hlt2 : ¬ fr_X4_wanted τ (nI p) < fr_X4_wanted τ (nI p) := by rw [← heq] at hlt ⊢; exact hlt
              simp [hc, hv, ea, hca, hva, ec, hcc, hvc, hn, hma, h21, heq, hlt2, hokw, hov.2]
          · have hov := zr_over hI hp hB hH hf hpr (Or.inr hcu) 0 (fun h => absurd rfl h)
            constructor
            · unfold fn_X4_look
              rw [hc, ea, hca, if_pos hn, if_pos hma, if_pos h21, ec, hcc, if_neg hlt, if_neg heq]
              exact hov.1
            · unfold ok_X4_look
              rw [ec] at hn
              simp [hc, hv, ea, hca, hva, ec, hcc, hvc, hn, hma, h21, hlt, heq, hokw, hov.2]
      · have h21' : τ 21 p = 1 := by
          rcases hB.2.2.1 with h1 | h1
          · exact absurd h1 h21
          · exact h1
        constructor
        · unfold fn_X4_look
          rw [hc, ea, hca, if_pos hn, if_pos hma, if_neg h21]
          refine zr_loc (p := p) hI rfl rfl rfl rfl rfl rfl rfl rfl rfl rfl rfl rfl (fun q hq hne => by simp [zr_Q, zs_u, hne]) ?_
          refine zr_mk6 (hbc _ rfl rfl rfl rfl rfl rfl rfl rfl) (by simp [zs_u]) hH (zr_D_of (τ := τ) rfl rfl rfl hf) (zr_nd_congr hpr rfl (zr_Pt_congr rfl rfl rfl rfl rfl rfl)) (zr_nd_congr hcu rfl (zr_Pt_congr rfl rfl rfl rfl rfl rfl)) hnx ?_ (hm h21')
          intro c' hc' e'
          rcases hs c' hc' e' with h2 | h2
          · exact Or.inl h2
          · exact Or.inr (zr_rf_congr h2 rfl (zr_Pt_congr rfl rfl rfl rfl rfl rfl))
        · unfold ok_X4_look
          rw [ec] at hn
          simp [hc, hv, ea, hca, hva, ec, hn, hma, h21']
    · constructor
      · unfold fn_X4_look
        rw [hc, ea, hca, if_pos hn, if_neg hma]
        exact h3
      · unfold ok_X4_look
        rw [ec] at hn
        simp [hc, hv, ea, hca, hva, ec, hn, hma]
  · constructor
    · unfold fn_X4_look
      rw [hc, ea, hca, if_neg hn]
      exact h3
    · unfold ok_X4_look
      rw [ec] at hn
      simp [hc, hv, ea, hca, hva, ec, hn]
