/-! steps that change nothing but the process itself -/
theorem zr_loc {N : Nat} {τ τ' : zs_T} {p : Nat} (hI : zr_I N τ) (e0 : τ' 0 = τ 0) (e1 : τ' 1 = τ 1) (e2 : τ' 2 = τ 2) (e3 : τ' 3 = τ 3) (e6 : τ' 6 = τ 6) (e7 : τ' 7 = τ 7) (e22 : τ' 22 = τ 22) (e28 : τ' 28 = τ 28) (e29 : τ' 29 = τ 29) (e31 : τ' 31 = τ 31) (e32 : τ' 32 = τ 32) (e34 : τ' 34 = τ 34) (hQ : ∀ q, q < 4 → q ≠ p → zr_Q τ τ' q) (hP : zr_P τ' p) : zr_I (N + 1) τ' := by
  refine ⟨zr_G_mono (by omega) (zr_G_congr hI.1 e0 e1 e2 e3 e6 e22 e28 e29 e31 e32 e34), fun q hq => ?_⟩
  by_cases hqp : q = p
  · subst hqp; exact hP
  · exact zr_P_keep hI.1 (zr_K_of e0 e1 e2 e3 e6 e7 e22 e34) (hQ q hq hqp) hq (hI.2 q hq)
theorem zr_H_congr {τ τ' : zs_T} {p : Nat} (h : zr_H τ p) (e14 : τ' 14 p = τ 14 p) (e15 : τ' 15 p = τ 15 p) (e34 : τ' 34 = τ 34) : zr_H τ' p := by
  unfold zr_H; rw [e14, e15, e34]; exact h
theorem zr_Pt_congr {τ τ' : zs_T} {p : Nat} (e0 : τ' 0 = τ 0) (e6 : τ' 6 = τ 6) (e7 : τ' 7 = τ 7) (e22 : τ' 22 = τ 22) (e14 : τ' 14 p = τ 14 p) (e15 : τ' 15 p = τ 15 p) : zr_Pt τ' p = zr_Pt τ p := by
  funext n; unfold zr_Pt; rw [zr_L_congr e0 e22, e0, e6, e7, e14, e15]
theorem zr_D_congr {τ τ' : zs_T} (e0 : τ' 0 = τ 0) (e1 : τ' 1 = τ 1) (e22 : τ' 22 = τ 22) : (fun n => zr_L τ' n ∧ zr_ev (τ' 1 n)) = (fun n => zr_L τ n ∧ zr_ev (τ 1 n)) := by
  funext n; rw [zr_L_congr e0 e22, e1]
theorem zr_D_of {τ τ' : zs_T} {x : Int32} (e0 : τ' 0 = τ 0) (e1 : τ' 1 = τ 1) (e22 : τ' 22 = τ 22) (h : zr_nd (fun n => zr_L τ n ∧ zr_ev (τ 1 n)) x) : zr_nd (fun n => zr_L τ' n ∧ zr_ev (τ' 1 n)) x := h.imp (fun n h => by rw [zr_L_congr e0 e22, e1]; exact h)
theorem zr_B_congr {τ τ' : zs_T} {p d b : Nat} (h : zr_B τ p d b) (e1 : τ' 1 = τ 1) (e12 : τ' 12 p = τ 12 p) (e30 : τ' 30 p = τ 30 p) (e16 : τ' 16 p = τ 16 p) (e27 : ∀ j, j < 4 → τ' 27 (16 * p + j) = τ 27 (16 * p + j)) (e21 : zs_B (τ' 21 p)) (e24 : zs_B (τ' 24 p)) (e22 : τ' 22 p = τ 22 p) : zr_B τ' p d b := by
  obtain ⟨b1, ⟨b2, b3, b4, b5, b6⟩, b7, b8, b9⟩ := h
  exact ⟨by rw [e12]; exact b1, ⟨b2, by rw [e30]; exact b3, b4, by rw [e16]; exact b5, fun j hj => by rw [e27 j (by omega)]; exact b6 j hj⟩, e21, e24, fun n hn h h0 => by rw [e1]; exact b9 n hn (by rw [← e22]; exact h) (by rw [← e30]; exact h0)⟩
-- place 1
theorem zi_1 {N p : Nat} {τ : zs_T} (hI : zr_I N τ) (hp : p < 4) (h : τ 10 p = 1) : zr_I (N + 1) (fn_X4_oneStep τ (nI p)).1 ∧ ok_X4_oneStep τ (nI p) := by
  have hc : (nI p).toNatClampNeg = p := zq_c (by omega)
  have hv : vp_in (nI p) 4 := zq_in hp (by decide)
  obtain ⟨d, b, hB, -, -⟩ := (hI.2 p hp).B
  have ho := (hI.2 p hp).o1 h
  have hz := hI.1.2.2.2.2.2.2.2.2.2.2.2.2.2.2
  obtain ⟨k, hk, ek⟩ := hB.1
  obtain ⟨b', hb', eb⟩ := zq_at τ hk hz
  constructor
  · unfold fn_X4_oneStep
    rw [hc, if_pos h]
    show zr_I (N + 1) (zs_u (zs_u (zs_u (zs_u (zs_u τ 14 p (τ 34 0)) 15 p (τ 34 0)) 16 p (fr_X4_hash τ (τ 12 p) - fr_X4_hash τ (τ 12 p) / τ 32 0 * τ 32 0)) 30 p 0) 10 p 2)
    rw [ek, eb]
    refine zr_loc (p := p) hI rfl rfl rfl rfl rfl rfl rfl rfl rfl rfl rfl rfl (fun q hq hne => by simp [zr_Q, zs_u, hne]) ?_
    refine zr_mk2 (d := 0) (b := b') ⟨⟨k, hk, by simp [zs_u, ek]⟩, ⟨by omega, by simp [zs_u, nI_0], hb', by simp [zs_u], fun j hj => absurd hj (by omega)⟩, by simpa [zs_u] using hB.2.2.1, by simpa [zs_u] using hB.2.2.2.1, fun n hn e => ?_⟩ (by simp [zs_u]) (by simp [zs_u, ho]) (by have := zq_pc4 b' hb'; omega) ⟨by simp [zs_u], by simp [zs_u]⟩
    simp [zs_u, ho] at e
    exact absurd e.symm (zq_m1 (by omega))
  · unfold ok_X4_oneStep
    have hne : ¬ τ 32 0 = 0 := by rcases hz with h | h | h | h | h <;> rw [h] <;> decide
    simp [hc, h, hv, zs_u, hne]
-- place 2
theorem zi_2 {N p : Nat} {τ : zs_T} (hI : zr_I N τ) (hp : p < 4) (h : τ 10 p = 2) : zr_I (N + 1) (fn_X4_oneStep τ (nI p)).1 ∧ ok_X4_oneStep τ (nI p) := by
  have hc : (nI p).toNatClampNeg = p := zq_c (by omega)
  have hv : vp_in (nI p) 4 := zq_in hp (by decide)
  obtain ⟨d, b, hB, hpc, -⟩ := (hI.2 p hp).B
  have hpc := hpc h
  have ho := (hI.2 p hp).o2 h
  have hH := (hI.2 p hp).H2 h
  obtain ⟨hk, ⟨hd4, ed, hb, eb, hst⟩, h21, h24, -⟩ := hB
  have hcb : (nI b).toNatClampNeg = b := zq_c (by omega)
  have hvb : vp_in (nI b) 16 := zq_in hb (by decide)
  have hbk := hI.1.2.2.2.2.2.2.1 b hb
  have e16 : 16 * nI p + nI d = nI (16 * p + d) := by rw [show (16 : Int32) = nI 16 from rfl, pk_mul, nI_add]
  have hc16 : (nI (16 * p + d)).toNatClampNeg = 16 * p + d := zq_c (by omega)
  have hno : ∀ (τ' : zs_T), τ' 22 p = τ 22 p → ∀ n, n < 64 → τ' 22 p = nI n → τ' 30 p ≠ 0 → zr_ev (τ' 1 n) := by
    intro τ' e n hn e2 _
    rw [e, ho] at e2
    exact absurd e2.symm (zq_m1 (by omega))
  by_cases hneg : τ 31 b < 0
  · have hb0 : b ≠ 0 := fun q => by
      subst q
      rcases hbk with h1 | ⟨n, h1, h2⟩
      · exact hI.1.2.2.2.2.2.2.2.1 h1
      · rw [h1] at hneg; exact zq_ge (by have := h2.1.1; omega) hneg
    have hpar := zq_parc b hb hb0
    have hd3 : d < 4 := by omega
    constructor
    · unfold fn_X4_oneStep
      rw [hc, if_neg (by rw [h]; decide), if_pos h, eb, hcb, if_pos hneg, ed, e16, hc16]
      show zr_I (N + 1) (zs_u (zs_u (zs_u τ 27 (16 * p + d) (nI b)) 30 p ((zs_u τ 27 (16 * p + d) (nI b)) 30 p + 1)) 16 p (fr_X4_parent zq_0 (τ 16 p)))
      rw [eb, zq_pp4 _ hb, show (zs_u τ 27 (16 * p + d) (nI b)) 30 p = τ 30 p from rfl, ed, nI_1]
      refine zr_loc (p := p) hI rfl rfl rfl rfl rfl rfl rfl rfl rfl rfl rfl rfl (fun q hq hne => ?_) ?_
      · simp [zr_Q, zs_u, hne]
        intro j hj hx
        omega
      · refine zr_mk2 (d := d + 1) (b := zq_par b) ⟨by simpa [zs_u] using hk, ⟨by omega, by simp [zs_u], zq_par16 hb, by simp [zs_u], fun j hj => ?_⟩, by simpa [zs_u] using h21, by simpa [zs_u] using h24, hno _ rfl⟩ (by simp [zs_u, h]) (by simp [zs_u, ho]) (by omega) ⟨by simpa [zs_u] using hH.1, by simpa [zs_u] using hH.2⟩
        by_cases hjd : j = d
        · subst hjd
          exact ⟨b, hb, by simp [zs_u]⟩
        · obtain ⟨b2, hb2, e2⟩ := hst j (by omega)
          exact ⟨b2, hb2, by simp [zs_u, hjd, e2]⟩
    · unfold ok_X4_oneStep
      have hv64 : vp_in (nI (16 * p + d)) 64 := zq_in (by omega) (by decide)
      have hokp := zq_ok4p
      simp [hc, h, hv, zs_u, eb, hcb, hvb, hneg, ed, e16, hv64, hc16]
      exact hokp _ hb
  · have hbk2 : zr_nd (fun n => zr_L τ n ∧ zr_ev (τ 1 n)) (τ 31 b) := by
      rcases hbk with h1 | h1
      · rw [h1] at hneg; exact absurd zq_lt0 hneg
      · exact h1
    constructor
    · unfold fn_X4_oneStep
      rw [hc, if_neg (by rw [h]; decide), if_pos h, eb, hcb, if_neg hneg]
      refine zr_loc (p := p) hI rfl rfl rfl rfl rfl rfl rfl rfl rfl rfl rfl rfl (fun q hq hne => by simp [zr_Q, zs_u, hne]) ?_
      refine zr_mk3 (d := d) (b := b) (zr_B_congr ⟨hk, ⟨hd4, ed, hb, eb, hst⟩, h21, h24, hno _ rfl⟩ rfl rfl rfl rfl (fun _ _ => rfl) h21 h24 rfl) (by simp [zs_u]) hH (zr_D_of (τ := τ) rfl rfl rfl ?_)
      simpa [zs_u] using hbk2
    · unfold ok_X4_oneStep
      simp [hc, h, hv, zs_u, eb, hcb, hvb, hneg]
-- place 3
theorem zi_3 {N p : Nat} {τ : zs_T} (hI : zr_I N τ) (hp : p < 4) (h : τ 10 p = 3) : zr_I (N + 1) (fn_X4_oneStep τ (nI p)).1 ∧ ok_X4_oneStep τ (nI p) := by
  have hc : (nI p).toNatClampNeg = p := zq_c (by omega)
  have hv : vp_in (nI p) 4 := zq_in hp (by decide)
  obtain ⟨d, b, hB, -, -⟩ := (hI.2 p hp).B
  have hH := (hI.2 p hp).H3 h
  have hf := (hI.2 p hp).f3 h
  obtain ⟨f, ef, hfL, hfe⟩ := id hf
  have hcf : (nI f).toNatClampNeg = f := zq_c (by have := hfL.1; omega)
  have hvf : vp_in (nI f) 64 := zq_in hfL.1 (by decide)
  have hb : ∀ τ' : zs_T, τ' 1 = τ 1 → τ' 12 = τ 12 → τ' 30 = τ 30 → τ' 16 = τ 16 → τ' 27 = τ 27 → τ' 21 = τ 21 → τ' 24 = τ 24 → τ' 22 = τ 22 → zr_B τ' p d b := fun τ' a1 a2 a3 a4 a5 a6 a7 a8 => zr_B_congr hB a1 (by rw [a2]) (by rw [a3]) (by rw [a4]) (fun _ _ => by rw [a5]) (by rw [a6]; exact hB.2.2.1) (by rw [a7]; exact hB.2.2.2.1) (by rw [a8])
  by_cases he : τ 15 p = τ 34 0
  · have er : fn_X4_reads τ (nI p) = (τ, 1) := by unfold fn_X4_reads; rw [hc, if_pos he]
    constructor
    · unfold fn_X4_oneStep
      rw [hc, if_neg (by rw [h]; decide), if_neg (by rw [h]; decide), if_pos h, er, if_neg (show ¬ ((1 : Int32) = 0) by decide)]
      show zr_I (N + 1) (zs_u (zs_u (zs_u τ 18 p (τ 17 p)) 19 p (τ 2 (τ 17 p).toNatClampNeg)) 10 p 4)
      rw [ef, hcf]
      refine zr_loc (p := p) hI rfl rfl rfl rfl rfl rfl rfl rfl rfl rfl rfl rfl (fun q hq hne => by simp [zr_Q, zs_u, hne]) ?_
      have pc := zr_Pt_congr (τ := τ) (τ' := zs_u (zs_u (zs_u τ 18 p (nI f)) 19 p (τ 2 f)) 10 p 4) (p := p) rfl rfl rfl rfl rfl rfl
      have key : ∀ n, zr_L τ n → zr_Pt τ p n := fun n hn => ⟨Or.inl hn, by rw [he]; exact hI.1.2.2.2.2.2.2.2.2.2.2.2.2.2.1 n hn.1⟩
      refine zr_mk4 (hb _ rfl rfl rfl rfl rfl rfl rfl rfl) (by simp [zs_u]) hH ?_ ?_ ?_
      · exact zr_D_of (τ := τ) rfl rfl rfl hf
      · rw [pc]; exact ⟨f, by simp [zs_u], key f hfL⟩
      · rw [pc]
        have := (hI.1.2.2.1 f hfL).imp key
        simpa [zs_u] using this
    · unfold ok_X4_oneStep ok_X4_reads
      simp [hc, h, hv, er, zs_u, ef, hvf]
  · have er : fn_X4_reads τ (nI p) = (zs_u τ 15 p (τ 34 0), 0) := by unfold fn_X4_reads; rw [hc, if_neg he]
    constructor
    · unfold fn_X4_oneStep
      rw [hc, if_neg (by rw [h]; decide), if_neg (by rw [h]; decide), if_pos h, er, if_pos rfl]
      refine zr_loc (p := p) hI rfl rfl rfl rfl rfl rfl rfl rfl rfl rfl rfl rfl (fun q hq hne => by simp [zr_Q, zs_u, hne]) ?_
      refine zr_mk3 (hb _ rfl rfl rfl rfl rfl rfl rfl rfl) h ⟨hH.1, by simp [zs_u]⟩ ?_
      exact zr_D_of (τ := τ) rfl rfl rfl hf
    · unfold ok_X4_oneStep ok_X4_reads
      simp [hc, h, hv, er, zs_u, ef, hvf]
/-- the end of an operation: an own node becomes free -/
theorem zr_ends {N p d b : Nat} {τ : zs_T} (hG : zr_G N τ) (hP : ∀ q, q < 4 → q ≠ p → zr_P τ q) (hB : zr_B τ p d b) (hp : p < 4) (r : Int32) : zr_I N (fn_X4_ends τ (nI p) r).1 ∧ ok_X4_ends τ (nI p) r := by
  have hc : (nI p).toNatClampNeg = p := zq_c (by omega)
  have hv : vp_in (nI p) 4 := zq_in hp (by decide)
  obtain ⟨g1, g2, g3, g4, g5, g6, g7, g8, g9, g10, g11, g12, g13, g14, g15⟩ := id hG
  rcases g9 p hp with ho | ⟨n, ho, hn, hn1⟩
  · have e : (fn_X4_ends τ (nI p) r).1 = zs_u (zs_u (zs_u (zs_u (zs_u (zs_u τ 26 p r) 22 p (-1)) 14 p 0) 15 p 0) 10 p 0) 30 p 0 := by
      unfold fn_X4_ends
      rw [hc, if_pos (show zs_u τ 26 p r 22 p < 0 by show τ 22 p < 0; rw [ho]; decide)]
    have e22 : (zs_u (zs_u (zs_u (zs_u (zs_u (zs_u τ 26 p r) 22 p (-1)) 14 p 0) 15 p 0) 10 p 0) 30 p 0) 22 = τ 22 := by
      funext q
      by_cases hq : q = p
      · subst hq; simp [zs_u, ho]
      · simp [zs_u, hq]
    refine ⟨?_, ?_⟩
    · rw [e]
      refine ⟨zr_G_congr hG rfl rfl rfl rfl rfl e22 rfl rfl rfl rfl rfl, fun q hq => ?_⟩
      by_cases hqp : q = p
      · subst hqp
        refine zr_mk0 (d := 0) (b := b) ⟨hB.1, ⟨by omega, by simp [zs_u, nI_0], hB.2.1.2.2.1, hB.2.1.2.2.2.1, fun j hj => absurd hj (by omega)⟩, hB.2.2.1, hB.2.2.2.1, fun m hm e0 => ?_⟩ (by simp [zs_u]) (by simp [zs_u]) rfl
        rw [e22, ho] at e0
        exact absurd e0.symm (zq_m1 (by omega))
      · exact zr_P_keep hG (zr_K_of rfl rfl rfl rfl rfl rfl e22 rfl) (by simp [zr_Q, zs_u, hqp]) hq (hP q hq hqp)
    · unfold ok_X4_ends
      simp [hc, hv, zs_u, ho]
  · have hcn : (nI n).toNatClampNeg = n := zq_c (by omega)
    have hvn : vp_in (nI n) 64 := zq_in hn (by decide)
    have hnn : ¬ nI n < 0 := zq_ge (by omega)
    have e : (fn_X4_ends τ (nI p) r).1 = zs_u (zs_u (zs_u (zs_u (zs_u (zs_u (zs_u τ 26 p r) 0 n 0) 22 p (-1)) 14 p 0) 15 p 0) 10 p 0) 30 p 0 := by
      unfold fn_X4_ends
      rw [hc, if_neg (show ¬ zs_u τ 26 p r 22 p < 0 by show ¬ τ 22 p < 0; rw [ho]; exact hnn)]
      show zs_u (zs_u (zs_u (zs_u (zs_u (zs_u (zs_u τ 26 p r) 0 (τ 22 p).toNatClampNeg 0) 22 p (-1)) 14 p 0) 15 p 0) 10 p 0) 30 p 0 = _
      rw [ho, hcn]
    generalize hτ' : zs_u (zs_u (zs_u (zs_u (zs_u (zs_u (zs_u τ 26 p r) 0 n 0) 22 p (-1)) 14 p 0) 15 p 0) 10 p 0) 30 p 0 = τ' at e
    have r0 : ∀ k, τ' 0 k = if k = n then 0 else τ 0 k := fun k => by rw [← hτ']; simp [zs_u]
    have r22 : ∀ q, τ' 22 q = if q = p then -1 else τ 22 q := fun q => by rw [← hτ']; simp [zs_u]
    have eq1 : τ' 1 = τ 1 := by rw [← hτ']; rfl
    have eq2 : τ' 2 = τ 2 := by rw [← hτ']; rfl
    have eq3 : τ' 3 = τ 3 := by rw [← hτ']; rfl
    have eq6 : τ' 6 = τ 6 := by rw [← hτ']; rfl
    have eq7 : τ' 7 = τ 7 := by rw [← hτ']; rfl
    have eq28 : τ' 28 = τ 28 := by rw [← hτ']; rfl
    have eq29 : τ' 29 = τ 29 := by rw [← hτ']; rfl
    have eq31 : τ' 31 = τ 31 := by rw [← hτ']; rfl
    have eq32 : τ' 32 = τ 32 := by rw [← hτ']; rfl
    have eq34 : τ' 34 = τ 34 := by rw [← hτ']; rfl
    have hO : zr_O τ n := ⟨p, hp, ho⟩
    have hO' : ∀ m, m < 64 → m ≠ n → (zr_O τ' m ↔ zr_O τ m) := by
      intro m hm hmn
      constructor
      · rintro ⟨q, hq, e1⟩
        rw [r22] at e1
        by_cases hqp : q = p
        · rw [if_pos hqp] at e1; exact absurd e1.symm (zq_m1 (by omega))
        · rw [if_neg hqp] at e1; exact ⟨q, hq, e1⟩
      · rintro ⟨q, hq, e1⟩
        have hqp : q ≠ p := fun h => by subst h; rw [ho] at e1; exact hmn ((nI_eq (by omega) (by omega)).mp e1).symm
        exact ⟨q, hq, by rw [r22, if_neg hqp]; exact e1⟩
    have eL : zr_L τ' = zr_L τ := by
      funext m
      unfold zr_L
      apply propext
      by_cases hmn : m = n
      · subst hmn
        constructor
        · rintro ⟨-, h2, -⟩; rw [r0, if_pos rfl] at h2; exact absurd h2 (by decide)
        · rintro ⟨-, -, h3⟩; exact absurd hO h3
      · rw [r0, if_neg hmn]
        constructor
        · rintro ⟨h1, h2, h3⟩; exact ⟨h1, h2, fun h => h3 ((hO' m h1 hmn).mpr h)⟩
        · rintro ⟨h1, h2, h3⟩; exact ⟨h1, h2, fun h => h3 ((hO' m h1 hmn).mp h)⟩
    have rowne : ∀ m, m < 64 → τ 0 m = 2 → m ≠ n := fun m _ h2 h => by subst h; rw [hn1] at h2; exact absurd h2 (by decide)
    refine ⟨?_, ?_⟩
    · rw [e]
      refine ⟨?_, fun q hq => ?_⟩
      · unfold zr_G
        rw [eL, eq1, eq2, eq3, eq6, eq28, eq29, eq31, eq32, eq34]
        refine ⟨g1, g2, g3, g4, ?_, g6, g7, g8, ?_, ?_, ?_, g12, g13, g14, g15⟩
        · intro k hk h2
          rw [r0] at h2
          by_cases hkn : k = n
          · rw [if_pos hkn] at h2; exact absurd h2 (by decide)
          · rw [if_neg hkn] at h2; exact g5 k hk h2
        · intro q hq
          rw [r22]
          by_cases hqp : q = p
          · rw [if_pos hqp]; exact Or.inl rfl
          · rw [if_neg hqp]
            rcases g9 q hq with h1 | ⟨m, e1, hm, hm1⟩
            · exact Or.inl h1
            · refine Or.inr ⟨m, e1, hm, ?_⟩
              have hmn : m ≠ n := fun h => by subst h; exact hqp (g10 q p hq hp (e1.trans ho.symm) (by rw [e1]; exact zq_m1 (by omega)))
              rw [r0, if_neg hmn]; exact hm1
        · intro a c ha hc' e1 h1
          rw [r22] at e1 h1
          rw [r22] at e1
          by_cases hap : a = p
          · rw [if_pos hap] at h1; exact absurd rfl h1
          · rw [if_neg hap] at e1 h1
            by_cases hcp : c = p
            · rw [if_pos hcp] at e1; exact absurd e1 h1
            · rw [if_neg hcp] at e1; exact g10 a c ha hc' e1 h1
        · intro q hq
          obtain ⟨k, hk, ek, hrow⟩ := g11 q hq
          refine ⟨k, hk, ek, fun j hj => (hrow j hj).imp (fun m hm => ⟨hm.1, ?_⟩)⟩
          rw [r0, if_neg (rowne m hm.1 hm.2)]; exact hm.2
      · by_cases hqp : q = p
        · subst hqp
          have ho' : τ' 22 q = -1 := by rw [r22, if_pos rfl]
          refine zr_mk0 (d := 0) (b := b) ⟨by rw [← hτ']; exact hB.1, ⟨by omega, by rw [← hτ']; simp [zs_u, nI_0], hB.2.1.2.2.1, by rw [← hτ']; exact hB.2.1.2.2.2.1, fun j hj => absurd hj (by omega)⟩, by rw [← hτ']; exact hB.2.2.1, by rw [← hτ']; exact hB.2.2.2.1, fun m hm e0 => ?_⟩ (by rw [← hτ']; simp [zs_u]) ho' rfl
          rw [ho'] at e0
          exact absurd e0.symm (zq_m1 (by omega))
        · refine zr_P_keep hG ⟨fun m hm => Or.inl (by rw [eL]; exact hm), fun m hm h2 _ _ _ => ⟨by rw [r0, if_neg (rowne m hm h2)]; exact h2, by rw [eq7]⟩, fun m _ _ => ⟨by rw [eq6], by rw [eq1]⟩, fun m _ _ h3 _ => ⟨by rw [eq3]; exact h3, by rw [eq2]⟩, fun m _ _ => ⟨by rw [eq2], by rw [eq3]⟩, by rw [eq34]; exact Int32.le_refl _⟩ ?_ hq (hP q hq hqp)
          rw [← hτ']
          simp [zr_Q, zs_u, hqp]
    · unfold ok_X4_ends
      simp [hc, hv, zs_u, ho, hcn, hvn, hnn]
