theorem zs_n1 {q c : Nat} (h : c < 40) : (40 + q = c) = False := by apply propext; constructor; intro z; omega; intro z; exact z.elim
theorem zs_n2 {q c : Nat} (h : c < 40) : (44 + q = c) = False := by apply propext; constructor; intro z; omega; intro z; exact z.elim
theorem zs_n3 {q c : Nat} (h : c < 40) : (c = 40 + q) = False := by apply propext; constructor; intro z; omega; intro z; exact z.elim
theorem zs_n4 {q c : Nat} (h : c < 40) : (c = 44 + q) = False := by apply propext; constructor; intro z; omega; intro z; exact z.elim
theorem zs_n5 {q c : Nat} (h : c < 40) : (c = 40 + (4 + q)) = False := by apply propext; constructor; intro z; omega; intro z; exact z.elim
theorem ze_1 {N p : Nat} {σ τ : zs_T} (hE : zr_E σ τ) (hI : zr_I N τ) (hp : p < 4) (h : τ 10 p = 1) : zr_E (fn_X3_advance σ p).1 (fn_X4_oneStep τ (nI p)).1 ∧ ok_X3_advance σ p := by
  have hc : (nI p).toNatClampNeg = p := zq_c (by omega)
  obtain ⟨d, b, hB, -, -⟩ := (hI.2 p hp).B
  obtain ⟨⟨en, eb, ⟨e32, e33, e34⟩, ep, est, erow⟩, e1⟩ := id hE
  obtain ⟨p10, p11, p12, p13, p14, p15, p16, p21, p22, p24, p26, p30, p29⟩ := ep p hp
  obtain ⟨q1, q2, q3, q4, q5⟩ := e1 p hp
  obtain ⟨⟨kk, hkk, ek⟩, ⟨hd4, ed, hb16, eb16, hst⟩, h21, h24, hoe⟩ := id hB
  have hs10 : σ 10 p = 1 := p10.trans h
  have hA : (fn_X3_advance σ p).1 = (fn_X3_enter σ p).1 := by unfold fn_X3_advance; rw [if_pos hs10]
  have hz := hI.1.2.2.2.2.2.2.2.2.2.2.2.2.2.2
  have q1 := q1 (by rw [h]; decide)
  refine ⟨?_, by unfold ok_X3_advance; simp [hs10]⟩
  have ehb : fr_X3_hashOf σ (σ 12 p) &&& (σ 32 0 - 1) = fr_X4_hash τ (τ 12 p) - fr_X4_hash τ (τ 12 p) / τ 32 0 * τ 32 0 := by
    rw [p12, e32, ek]; exact zq_bk τ hkk hz
  have hσ : (fn_X3_enter σ p).1 = zs_u (zs_u (zs_u (zs_u (zs_u σ 14 p (σ 34 0)) 15 p (σ 34 0)) 16 p ((fr_X3_hashOf σ (σ 12 p)) &&& (σ 32 0 - 1))) 30 p 0) 10 p 2 := by
    show zs_u (fn_X1_cutTo (zs_u (zs_u (zs_u σ 14 p (σ 34 0)) 15 p (σ 34 0)) 16 p ((fr_X3_hashOf σ (σ 12 p)) &&& (σ 32 0 - 1))) p 0).1 10 p 2 = _
    rw [zd_cut0 (s := zs_u (zs_u (zs_u σ 14 p (σ 34 0)) 15 p (σ 34 0)) 16 p ((fr_X3_hashOf σ (σ 12 p)) &&& (σ 32 0 - 1))) (r := d) (by omega) (p30.trans ed)]
  have hτ : (fn_X4_oneStep τ (nI p)).1 = zs_u (zs_u (zs_u (zs_u (zs_u τ 14 p (τ 34 0)) 15 p (τ 34 0)) 16 p (fr_X4_hash τ (τ 12 p) - fr_X4_hash τ (τ 12 p) / τ 32 0 * τ 32 0)) 30 p 0) 10 p 2 := by
    unfold fn_X4_oneStep
    rw [hc, if_pos h]
    rfl
  rw [hA, hσ, hτ, ehb]
  refine zr_E_up (p := p) hE hp ?_ ?_ ?_ ?_ ?_ ?_ ?_ ?_ ?_
  · intro c k hc8 hk64
    have ee := en c k hc8 hk64
    rcases (show c = 0 ∨ c = 1 ∨ c = 2 ∨ c = 3 ∨ c = 4 ∨ c = 5 ∨ c = 6 ∨ c = 7 by omega) with rfl | rfl | rfl | rfl | rfl | rfl | rfl | rfl <;> simp [zs_u, ee, e34, zs_n3, zs_n4, zs_n5]
  · intro b0 hb0; simp [zs_u, eb b0 hb0, zs_n3, zs_n4, zs_n5]
  · simp [zs_u, e32, e33, e34, zs_n3, zs_n4, zs_n5]
  · intro q hq hne; have f1 : ¬ q = 4 + p := by omega
    have f2 : ¬ 4 + q = p := by omega
    have f3 : ¬ 44 + q = 40 + (4 + p) := by omega
    have f4 : ¬ 40 + q = 40 + (4 + p) := by omega
    have f5 : ¬ 44 + q = 40 + p := by omega
    have f6 : ¬ q = 4 + q := by omega
    have f7 : ¬ 4 + q = 4 + p := by omega
    simp [zr_VC, zs_u, hne, f1, f2, f3, f4, f5, f6, f7, zs_n1, zs_n2, zs_n3, zs_n4, zs_n5]
  · intro q hq hne; simp [zr_VM, zs_u, hne]
  · simp [zs_u, zs_n1, zs_n2, zs_n3, zs_n4, zs_n5, p10, p11, p12, p13, p14, p15, p16, p21, p22, p24, p26, p30, p29, e32, e33, e34, h]
  · intro j hj hlt; simp [zs_u] at hlt; exact absurd hlt (by rw [← nI_0, nI_ltI (by omega) (by omega)]; omega)
  · intro j hj hlt; have := erow p j hp hj (by simpa [zs_u] using hlt); simpa [zs_u, zs_n1, zs_n2, zs_n3, zs_n4, zs_n5] using this
  · exact ⟨fun _ => by simp [zs_u, q1], fun z => by simp [zs_u] at z, fun z => by simp [zs_u] at z, fun z => by simp [zs_u] at z, fun z => by simp [zs_u] at z ⊢; exact q5 (Or.inr (Or.inr z))⟩
theorem ze_2 {N p : Nat} {σ τ : zs_T} (hE : zr_E σ τ) (hI : zr_I N τ) (hp : p < 4) (h : τ 10 p = 2) : zr_E (fn_X3_advance σ p).1 (fn_X4_oneStep τ (nI p)).1 ∧ ok_X3_advance σ p := by
  have hc : (nI p).toNatClampNeg = p := zq_c (by omega)
  obtain ⟨d, b, hB, -, -⟩ := (hI.2 p hp).B
  obtain ⟨⟨en, eb, ⟨e32, e33, e34⟩, ep, est, erow⟩, e1⟩ := id hE
  obtain ⟨p10, p11, p12, p13, p14, p15, p16, p21, p22, p24, p26, p30, p29⟩ := ep p hp
  obtain ⟨q1, q2, q3, q4, q5⟩ := e1 p hp
  obtain ⟨⟨kk, hkk, ek⟩, ⟨hd4, ed, hb16, eb16, hst⟩, h21, h24, hoe⟩ := id hB
  have hs10 : σ 10 p = 2 := p10.trans h
  have hA : (fn_X3_advance σ p).1 = (fn_X3_seekBucket σ p).1 := by unfold fn_X3_advance; rw [if_neg (by rw [hs10]; decide), if_pos hs10]
  have q1 := q1 (by rw [h]; decide)
  have hpc := ((hI.2 p hp).B)
  have hcb : (nI b).toNatClampNeg = b := zq_c (by omega)
  have hbk := hI.1.2.2.2.2.2.2.1 b hb16
  have e16 : 16 * nI p + nI d = nI (16 * p + d) := by rw [show (16 : Int32) = nI 16 from rfl, pk_mul, nI_add]
  have hc16 : (nI (16 * p + d)).toNatClampNeg = 16 * p + d := zq_c (by omega)
  have en31 : fr_X3_nodeOfBucket σ (σ 16 p) = τ 31 b := by rw [p16, eb16, zd_nob hb16, eb b hb16]
  by_cases hneg : τ 31 b < 0
  · have hm1 : τ 31 b = -1 := by
      rcases hbk with z | ⟨n, z, z2⟩
      · exact z
      · rw [z] at hneg; exact absurd hneg (zq_ge (by have := z2.1.1; omega))
    have hb0 : b ≠ 0 := fun q => by subst q; exact hI.1.2.2.2.2.2.2.2.1 hm1
    obtain ⟨d', b', hB', hpc', -⟩ := hpc
    have : d' = d := (nI_eq (by have := hB'.2.1.1; omega) (by omega)).mp (hB'.2.1.2.1.symm.trans ed)
    subst this
    have : b' = b := (nI_eq (by have := hB'.2.1.2.2.1; omega) (by omega)).mp (hB'.2.1.2.2.2.1.symm.trans eb16)
    subst this
    have hpc' := hpc' h
    have hpar := zq_parc b' hb16 hb0
    have hd3 : d' < 4 := by omega
    have hadd : (fn_X1_add σ p (σ 16 p)).1 = zs_u (zs_u σ (40 + p) d' (nI b')) 30 p (nI (d' + 1)) := by
      rw [zd_add (d := d') (by rw [zd_len0 hp]; exact hd3) (p30.trans ed), p16, eb16]
    have hσ : (fn_X3_seekBucket σ p).1 = zs_u (zs_u (zs_u σ (40 + p) d' (nI b')) 30 p (nI (d' + 1))) 16 p (nI (zq_par b')) := by
      unfold fn_X3_seekBucket
      rw [if_pos (by rw [en31]; exact hm1), hadd]
      have : zs_u (zs_u σ (40 + p) d' (nI b')) 30 p (nI (d' + 1)) 16 p = nI b' := by rw [zs_uc (by decide), zs_uc (by omega), p16, eb16]
      rw [this, zq_pp3 _ hb16]
    have hτ : (fn_X4_oneStep τ (nI p)).1 = zs_u (zs_u (zs_u τ 27 (16 * p + d') (nI b')) 30 p (nI (d' + 1))) 16 p (nI (zq_par b')) := by
      unfold fn_X4_oneStep
      rw [hc, if_neg (by rw [h]; decide), if_pos h, eb16, hcb, if_pos hneg, ed, e16, hc16]
      show zs_u (zs_u (zs_u τ 27 (16 * p + d') (nI b')) 30 p (τ 30 p + 1)) 16 p (fr_X4_parent zq_0 (τ 16 p)) = _
      rw [eb16, zq_pp4 _ hb16, ed, nI_1]
    refine ⟨?_, ?_⟩
    · rw [hA, hσ, hτ]
      have g1 : ∀ c, c < 40 → ¬ c = 40 + p := by intro c hc'; omega
      refine zr_E_up (p := p) hE hp ?_ ?_ ?_ ?_ ?_ ?_ ?_ ?_ ?_
      · intro c k hc8 hk64
        rw [zs_uc (by omega), zs_uc (by omega), zs_uc (by omega), zs_uc (by omega), zs_uc (by omega), zs_uc (by omega)]; exact en c k hc8 hk64
      · intro b0 hb0; rw [zs_uc (by omega), zs_uc (by omega), zs_uc (by omega), zs_uc (by omega), zs_uc (by omega), zs_uc (by omega)]; exact eb b0 hb0
      · simp [zs_u, e32, e33, e34, g1]
      · intro q hq hne
        have f1 : ∀ c, c < 40 → ¬ c = 40 + p := g1
        have f5 : ¬ 44 + q = 40 + p := by omega
        have f8 : ¬ 4 + q = p := by omega
        simp [zr_VC, zs_u, hne, f1, f5, f8, zs_n1, zs_n2, zs_n3]
      · intro q hq hne
        simp [zr_VM, zs_u, hne]
        intro j hj z; omega
      · simp [zs_u, g1, p10, p11, p12, p13, p14, p15, p21, p22, p24, p26, p29]
      · intro j hj hlt
        simp [zs_u, nI_ltI, hj] at hlt
        by_cases hjd : j = d'
        · subst hjd; simp [zs_u, zs_n1]
        · have hlt2 : nI j < nI (d' + 1) := hlt
          have := (nI_ltI (by omega) (by omega)).mp hlt2
          have := est p j hp hj (by rw [ed, nI_ltI (by omega) (by omega)]; omega)
          simpa [zs_u, hjd, zs_n1] using this
      · intro j hj hlt
        have hlt : nI j < τ 29 p := by simpa [zs_u] using hlt
        have := erow p j hp hj hlt
        have f9 : ¬ 44 + p = 40 + p := by omega
        simpa [zs_u, f9, zs_n2] using this
      · have z10 : (zs_u (zs_u (zs_u τ 27 (16 * p + d') (nI b')) 30 p (nI (d' + 1))) 16 p (nI (zq_par b'))) 10 p = 2 := h
        refine ⟨fun _ => by simpa [zs_u, g1] using q1, fun z => ?_, fun z => ?_, fun z => ?_, fun z => ?_⟩
        · rw [z10] at z; exact absurd z (by decide)
        · rw [z10] at z; exact absurd z (by decide)
        · rw [z10] at z; exact absurd z (by decide)
        · rw [z10] at z
          have z2 : τ 24 p = 1 := by
            rcases z with z | z | z
            · exact absurd z (by decide)
            · exact absurd z (by decide)
            · exact z
          simpa [zs_u, g1] using q5 (Or.inr (Or.inr z2))
    · unfold ok_X3_advance
      have hok : ok_X3_seekBucket σ p := by
        unfold ok_X3_seekBucket
        exact ⟨fun _ => ⟨zd_okadd (d := d') (by rw [zd_len0 hp]; exact hd3) (p30.trans ed), zq_ok3p _ _, trivial⟩, fun _ => trivial⟩
      simp [hs10, hok]
  · have hm1 : ¬ τ 31 b = -1 := fun z => by rw [z] at hneg; exact hneg zq_lt0
    have hσ : (fn_X3_seekBucket σ p).1 = zs_u (zs_u σ 17 p (τ 31 b)) 10 p 3 := by
      unfold fn_X3_seekBucket
      rw [if_neg (by rw [en31]; exact hm1), en31]
    have hτ : (fn_X4_oneStep τ (nI p)).1 = zs_u (zs_u τ 17 p (τ 31 b)) 10 p 3 := by
      unfold fn_X4_oneStep
      rw [hc, if_neg (by rw [h]; decide), if_pos h, eb16, hcb, if_neg hneg]
    refine ⟨?_, ?_⟩
    · rw [hA, hσ, hτ]
      refine zr_E_up (p := p) hE hp ?_ ?_ ?_ ?_ ?_ ?_ ?_ ?_ ?_
      · intro c k hc8 hk64
        have ee := en c k hc8 hk64
        rcases (show c = 0 ∨ c = 1 ∨ c = 2 ∨ c = 3 ∨ c = 4 ∨ c = 5 ∨ c = 6 ∨ c = 7 by omega) with rfl | rfl | rfl | rfl | rfl | rfl | rfl | rfl <;> simp [zs_u, ee, e34, zs_n3, zs_n4, zs_n5]
      · intro b0 hb0; simp [zs_u, eb b0 hb0, zs_n3, zs_n4, zs_n5]
      · simp [zs_u, e32, e33, e34, zs_n3, zs_n4, zs_n5]
      · intro q hq hne; have f1 : ¬ q = 4 + p := by omega
        have f2 : ¬ 4 + q = p := by omega
        have f3 : ¬ 44 + q = 40 + (4 + p) := by omega
        have f4 : ¬ 40 + q = 40 + (4 + p) := by omega
        have f5 : ¬ 44 + q = 40 + p := by omega
        have f6 : ¬ q = 4 + q := by omega
        have f7 : ¬ 4 + q = 4 + p := by omega
        simp [zr_VC, zs_u, hne, f1, f2, f3, f4, f5, f6, f7, zs_n1, zs_n2, zs_n3, zs_n4, zs_n5]
      · intro q hq hne; simp [zr_VM, zs_u, hne]
      · simp [zs_u, zs_n1, zs_n2, zs_n3, zs_n4, zs_n5, p10, p11, p12, p13, p14, p15, p16, p21, p22, p24, p26, p30, p29, e32, e33, e34, h]
      · intro j hj hlt; have := est p j hp hj (by simpa [zs_u] using hlt); simpa [zs_u, zs_n1, zs_n2, zs_n3, zs_n4, zs_n5] using this
      · intro j hj hlt; have := erow p j hp hj (by simpa [zs_u] using hlt); simpa [zs_u, zs_n1, zs_n2, zs_n3, zs_n4, zs_n5] using this
      · exact ⟨fun _ => by simp [zs_u, q1], fun z => by simp [zs_u] at z, fun _ => by simp [zs_u], fun z => by simp [zs_u] at z, fun z => by simp [zs_u] at z ⊢; exact q5 (Or.inr (Or.inr z))⟩
    · unfold ok_X3_advance
      have hok : ok_X3_seekBucket σ p := by
        unfold ok_X3_seekBucket
        exact ⟨fun z => absurd (en31.symm.trans z) hm1, fun _ => trivial⟩
      simp [hs10, hok]
theorem ze_3 {N p : Nat} {σ τ : zs_T} (hE : zr_E σ τ) (hI : zr_I N τ) (hp : p < 4) (h : τ 10 p = 3) : zr_E (fn_X3_advance σ p).1 (fn_X4_oneStep τ (nI p)).1 ∧ ok_X3_advance σ p := by
  have hc : (nI p).toNatClampNeg = p := zq_c (by omega)
  obtain ⟨d, b, hB, -, -⟩ := (hI.2 p hp).B
  obtain ⟨⟨en, eb, ⟨e32, e33, e34⟩, ep, est, erow⟩, e1⟩ := id hE
  obtain ⟨p10, p11, p12, p13, p14, p15, p16, p21, p22, p24, p26, p30, p29⟩ := ep p hp
  obtain ⟨q1, q2, q3, q4, q5⟩ := e1 p hp
  obtain ⟨⟨kk, hkk, ek⟩, ⟨hd4, ed, hb16, eb16, hst⟩, h21, h24, hoe⟩ := id hB
  have hs10 : σ 10 p = 3 := p10.trans h
  have hA : (fn_X3_advance σ p).1 = (fn_X3_loadStart σ p).1 := by unfold fn_X3_advance; rw [if_neg (by rw [hs10]; decide), if_neg (by rw [hs10]; decide), if_pos hs10]
  have q1 := q1 (by rw [h]; decide)
  have q3 := q3 (by rw [h]; decide)
  obtain ⟨f, ef, hfL, hfe⟩ := (hI.2 p hp).f3 h
  have hcf : (nI f).toNatClampNeg = f := zq_c (by have := hfL.1; omega)
  refine ⟨?_, by unfold ok_X3_advance; simp [hs10]⟩
  by_cases he : τ 15 p = τ 34 0
  · have er : fn_X4_reads τ (nI p) = (τ, 1) := by unfold fn_X4_reads; rw [hc, if_pos he]
    have em : fn_X3_mayLoad σ p = (σ, 1) := by unfold fn_X3_mayLoad; rw [p15, e34, if_pos he]
    have hτ : (fn_X4_oneStep τ (nI p)).1 = zs_u (zs_u (zs_u τ 18 p (nI f)) 19 p (τ 2 f)) 10 p 4 := by
      unfold fn_X4_oneStep
      rw [hc, if_neg (by rw [h]; decide), if_neg (by rw [h]; decide), if_pos h, er, if_neg (show ¬ ((1 : Int32) = 0) by decide)]
      show zs_u (zs_u (zs_u τ 18 p (τ 17 p)) 19 p (τ 2 (τ 17 p).toNatClampNeg)) 10 p 4 = _
      rw [ef, hcf]
    have hσ : (fn_X3_loadStart σ p).1 = zs_u (zs_u (zs_u σ 18 p (nI f)) 19 p (τ 2 f)) 10 p 4 := by
      unfold fn_X3_loadStart
      rw [em, if_neg (show ¬ ((1 : Int32) = 0) by decide)]
      show zs_u (zs_u (zs_u σ 18 p (σ 17 p)) 19 p (fr_X3_nextOf (zs_u σ 18 p (σ 17 p)) (σ 17 p))) 10 p 4 = _
      rw [q3, ef, zd_nextOf hfL.1]
      have : zs_u σ 18 p (nI f) 2 f = τ 2 f := en 2 f (by decide) hfL.1
      rw [this]
    rw [hA, hσ, hτ]
    refine zr_E_up (p := p) hE hp ?_ ?_ ?_ ?_ ?_ ?_ ?_ ?_ ?_
    · intro c k hc8 hk64
      have ee := en c k hc8 hk64
      rcases (show c = 0 ∨ c = 1 ∨ c = 2 ∨ c = 3 ∨ c = 4 ∨ c = 5 ∨ c = 6 ∨ c = 7 by omega) with rfl | rfl | rfl | rfl | rfl | rfl | rfl | rfl <;> simp [zs_u, ee, e34, zs_n3, zs_n4, zs_n5]
    · intro b0 hb0; simp [zs_u, eb b0 hb0, zs_n3, zs_n4, zs_n5]
    · simp [zs_u, e32, e33, e34, zs_n3, zs_n4, zs_n5]
    · intro q hq hne; have f1 : ¬ q = 4 + p := by omega
      have f2 : ¬ 4 + q = p := by omega
      have f3 : ¬ 44 + q = 40 + (4 + p) := by omega
      have f4 : ¬ 40 + q = 40 + (4 + p) := by omega
      have f5 : ¬ 44 + q = 40 + p := by omega
      have f6 : ¬ q = 4 + q := by omega
      have f7 : ¬ 4 + q = 4 + p := by omega
      simp [zr_VC, zs_u, hne, f1, f2, f3, f4, f5, f6, f7, zs_n1, zs_n2, zs_n3, zs_n4, zs_n5]
    · intro q hq hne; simp [zr_VM, zs_u, hne]
    · simp [zs_u, zs_n1, zs_n2, zs_n3, zs_n4, zs_n5, p10, p11, p12, p13, p14, p15, p16, p21, p22, p24, p26, p30, p29, e32, e33, e34, h]
    · intro j hj hlt; have := est p j hp hj (by simpa [zs_u] using hlt); simpa [zs_u, zs_n1, zs_n2, zs_n3, zs_n4, zs_n5] using this
    · intro j hj hlt; have := erow p j hp hj (by simpa [zs_u] using hlt); simpa [zs_u, zs_n1, zs_n2, zs_n3, zs_n4, zs_n5] using this
    · exact ⟨fun _ => by simp [zs_u, q1], fun z => by simp [zs_u] at z, fun _ => by simp [zs_u, q3], fun z => by simp [zs_u] at z, fun z => by simp [zs_u] at z ⊢; exact q5 (Or.inr (Or.inr z))⟩
  · have er : fn_X4_reads τ (nI p) = (zs_u τ 15 p (τ 34 0), 0) := by unfold fn_X4_reads; rw [hc, if_neg he]
    have em : fn_X3_mayLoad σ p = (zs_u σ 15 p (τ 34 0), 0) := by unfold fn_X3_mayLoad; rw [p15, e34, if_neg he]
    have hτ : (fn_X4_oneStep τ (nI p)).1 = zs_u τ 15 p (τ 34 0) := by
      unfold fn_X4_oneStep
      rw [hc, if_neg (by rw [h]; decide), if_neg (by rw [h]; decide), if_pos h, er, if_pos rfl]
    have hσ : (fn_X3_loadStart σ p).1 = zs_u σ 15 p (τ 34 0) := by
      unfold fn_X3_loadStart
      rw [em, if_pos rfl]
    rw [hA, hσ, hτ]
    refine zr_E_up (p := p) hE hp ?_ ?_ ?_ ?_ ?_ ?_ ?_ ?_ ?_
    · intro c k hc8 hk64
      have ee := en c k hc8 hk64
      rcases (show c = 0 ∨ c = 1 ∨ c = 2 ∨ c = 3 ∨ c = 4 ∨ c = 5 ∨ c = 6 ∨ c = 7 by omega) with rfl | rfl | rfl | rfl | rfl | rfl | rfl | rfl <;> simp [zs_u, ee, e34, zs_n3, zs_n4, zs_n5]
    · intro b0 hb0; simp [zs_u, eb b0 hb0, zs_n3, zs_n4, zs_n5]
    · simp [zs_u, e32, e33, e34, zs_n3, zs_n4, zs_n5]
    · intro q hq hne; have f1 : ¬ q = 4 + p := by omega
      have f2 : ¬ 4 + q = p := by omega
      have f3 : ¬ 44 + q = 40 + (4 + p) := by omega
      have f4 : ¬ 40 + q = 40 + (4 + p) := by omega
      have f5 : ¬ 44 + q = 40 + p := by omega
      have f6 : ¬ q = 4 + q := by omega
      have f7 : ¬ 4 + q = 4 + p := by omega
      simp [zr_VC, zs_u, hne, f1, f2, f3, f4, f5, f6, f7, zs_n1, zs_n2, zs_n3, zs_n4, zs_n5]
    · intro q hq hne; simp [zr_VM, zs_u, hne]
    · simp [zs_u, zs_n1, zs_n2, zs_n3, zs_n4, zs_n5, p10, p11, p12, p13, p14, p15, p16, p21, p22, p24, p26, p30, p29, e32, e33, e34, h]
    · intro j hj hlt; have := est p j hp hj (by simpa [zs_u] using hlt); simpa [zs_u, zs_n1, zs_n2, zs_n3, zs_n4, zs_n5] using this
    · intro j hj hlt; have := erow p j hp hj (by simpa [zs_u] using hlt); simpa [zs_u, zs_n1, zs_n2, zs_n3, zs_n4, zs_n5] using this
    · exact ⟨fun _ => q1, fun z => by simp [zs_u, h] at z, fun _ => q3, fun z => by simp [zs_u, h] at z, fun z => by simp [zs_u, h] at z ⊢; exact q5 (Or.inr (Or.inr z))⟩
