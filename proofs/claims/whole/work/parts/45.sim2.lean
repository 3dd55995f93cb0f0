theorem ze_end {p d : Nat} {σ τ : zs_T} (hE : zr_E σ τ) (hp : p < 4) (hd4 : d ≤ 4) (ed : τ 30 p = nI d) (ho : zr_rf (fun n => n < 64) (τ 22 p)) (v : Int32) : zr_E (fn_X3_end σ p v).1 (fn_X4_ends τ (nI p) v).1 := by
  have hc : (nI p).toNatClampNeg = p := zq_c (by omega)
  obtain ⟨⟨en, eb, ⟨e32, e33, e34⟩, ep, est, erow⟩, e1⟩ := id hE
  obtain ⟨p10, p11, p12, p13, p14, p15, p16, p21, p22, p24, p26, p30, p29⟩ := ep p hp
  obtain ⟨q1, q2, q3, q4, q5⟩ := e1 p hp
  rcases ho with ho | ⟨n, ho, hn⟩
  · have hτ : (fn_X4_ends τ (nI p) v).1 = zs_u (zs_u (zs_u (zs_u (zs_u (zs_u τ 26 p v) 22 p (-1)) 14 p 0) 15 p 0) 10 p 0) 30 p 0 := by
      unfold fn_X4_ends
      rw [hc, if_pos (show zs_u τ 26 p v 22 p < 0 by show τ 22 p < 0; rw [ho]; decide)]
    have hσ : (fn_X3_end σ p v).1 = zs_u (zs_u (zs_u (zs_u (zs_u (zs_u (zs_u (zs_u (zs_u σ 22 p (-1)) 26 p v) 14 p 0) 15 p 0) 30 p 0) 18 p (-1)) 19 p (-1)) 20 p (-1)) 10 p 0 := by
      show (fn_X2_rest (fn_X3_freeOwn σ p).1 p v).1 = _
      rw [zd_free0 (p22.trans ho), zd_rest (s := zs_u σ 22 p (-1)) hd4 (p30.trans ed)]
    rw [hσ, hτ]
    refine zr_E_up (p := p) hE hp ?_ ?_ ?_ ?_ ?_ ?_ ?_ ?_ ?_
    · intro c k hc8 hk64
      have ee := en c k hc8 hk64
      rcases (show c = 0 ∨ c = 1 ∨ c = 2 ∨ c = 3 ∨ c = 4 ∨ c = 5 ∨ c = 6 ∨ c = 7 by omega) with rfl | rfl | rfl | rfl | rfl | rfl | rfl | rfl <;> simp [zs_u, ee, e34, zs_n3, zs_n4, zs_n5]
    · intro b0 hb0; simp [zs_u, eb b0 hb0, zs_n3, zs_n4, zs_n5]
    · simp [zs_u, e32, e33, e34, zs_n3, zs_n4, zs_n5]
    · intro q hq hne; have f1 : ¬ q = 4 + p := by omega
      have f2 : ¬ 4 + q = p := by omega
      have f3 : ¬ 44 + q = 40 + (4 + p) := by omega
      have f4 : ¬ 40 + q = 40 + (4 + p) := by omega
      have f5 : ¬ 44 + q = 40 + p := by omega
      have f6 : ¬ q = 4 + q := by omega
      have f7 : ¬ 4 + q = 4 + p := by omega
      simp [zr_VC, zs_u, hne, f1, f2, f3, f4, f5, f6, f7, zs_n1, zs_n2, zs_n3, zs_n4, zs_n5]
    · intro q hq hne; simp [zr_VM, zs_u, hne]
    · simp [zs_u, zs_n1, zs_n2, zs_n3, zs_n4, zs_n5, p10, p11, p12, p13, p14, p15, p16, p21, p22, p24, p26, p30, p29, e32, e33, e34]
    · intro j hj hlt; simp [zs_u] at hlt; exact absurd hlt (by rw [← nI_0, nI_ltI (by omega) (by omega)]; omega)
    · intro j hj hlt; have := erow p j hp hj (by simpa [zs_u] using hlt); simpa [zs_u, zs_n1, zs_n2, zs_n3, zs_n4, zs_n5] using this
    · exact ⟨fun z => by simp [zs_u] at z, fun _ => by simp [zs_u], fun z => by simp [zs_u] at z, fun z => by simp [zs_u] at z, fun z => by simp [zs_u] at z ⊢; exact q5 (Or.inr (Or.inr z))⟩
  · have hcn : (nI n).toNatClampNeg = n := zq_c (by omega)
    have hτ : (fn_X4_ends τ (nI p) v).1 = zs_u (zs_u (zs_u (zs_u (zs_u (zs_u (zs_u τ 26 p v) 0 n 0) 22 p (-1)) 14 p 0) 15 p 0) 10 p 0) 30 p 0 := by
      unfold fn_X4_ends
      rw [hc, if_neg (show ¬ zs_u τ 26 p v 22 p < 0 by show ¬ τ 22 p < 0; rw [ho]; exact zq_ge (by omega))]
      show zs_u (zs_u (zs_u (zs_u (zs_u (zs_u (zs_u τ 26 p v) 0 (τ 22 p).toNatClampNeg 0) 22 p (-1)) 14 p 0) 15 p 0) 10 p 0) 30 p 0 = _
      rw [ho, hcn]
    have hσ : (fn_X3_end σ p v).1 = zs_u (zs_u (zs_u (zs_u (zs_u (zs_u (zs_u (zs_u (zs_u (zs_u σ 0 n 0) 22 p (-1)) 26 p v) 14 p 0) 15 p 0) 30 p 0) 18 p (-1)) 19 p (-1)) 20 p (-1)) 10 p 0 := by
      show (fn_X2_rest (fn_X3_freeOwn σ p).1 p v).1 = _
      rw [zd_free1 hn (p22.trans ho), zd_rest (s := zs_u (zs_u σ 0 n 0) 22 p (-1)) hd4 (p30.trans ed)]
    rw [hσ, hτ]
    refine zr_E_up (p := p) hE hp ?_ ?_ ?_ ?_ ?_ ?_ ?_ ?_ ?_
    · intro c k hc8 hk64
      have ee := en c k hc8 hk64
      rcases (show c = 0 ∨ c = 1 ∨ c = 2 ∨ c = 3 ∨ c = 4 ∨ c = 5 ∨ c = 6 ∨ c = 7 by omega) with rfl | rfl | rfl | rfl | rfl | rfl | rfl | rfl <;> simp [zs_u, ee, e34, zs_n3, zs_n4, zs_n5]
    · intro b0 hb0; simp [zs_u, eb b0 hb0, zs_n3, zs_n4, zs_n5]
    · simp [zs_u, e32, e33, e34, zs_n3, zs_n4, zs_n5]
    · intro q hq hne; have f1 : ¬ q = 4 + p := by omega
      have f2 : ¬ 4 + q = p := by omega
      have f3 : ¬ 44 + q = 40 + (4 + p) := by omega
      have f4 : ¬ 40 + q = 40 + (4 + p) := by omega
      have f5 : ¬ 44 + q = 40 + p := by omega
      have f6 : ¬ q = 4 + q := by omega
      have f7 : ¬ 4 + q = 4 + p := by omega
      simp [zr_VC, zs_u, hne, f1, f2, f3, f4, f5, f6, f7, zs_n1, zs_n2, zs_n3, zs_n4, zs_n5]
    · intro q hq hne; simp [zr_VM, zs_u, hne]
    · simp [zs_u, zs_n1, zs_n2, zs_n3, zs_n4, zs_n5, p10, p11, p12, p13, p14, p15, p16, p21, p22, p24, p26, p30, p29, e32, e33, e34]
    · intro j hj hlt; simp [zs_u] at hlt; exact absurd hlt (by rw [← nI_0, nI_ltI (by omega) (by omega)]; omega)
    · intro j hj hlt; have := erow p j hp hj (by simpa [zs_u] using hlt); simpa [zs_u, zs_n1, zs_n2, zs_n3, zs_n4, zs_n5] using this
    · exact ⟨fun z => by simp [zs_u] at z, fun _ => by simp [zs_u], fun z => by simp [zs_u] at z, fun z => by simp [zs_u] at z, fun z => by simp [zs_u] at z ⊢; exact q5 (Or.inr (Or.inr z))⟩
theorem ze_over {N p d b : Nat} {σ τ : zs_T} (hE : zr_E σ τ) (hI : zr_I N τ) (hp : p < 4) (hB : zr_B τ p d b) (hpl : 3 ≤ (τ 10 p).toInt) (fnd : Int32) (hfnd : ¬ fnd = 0 → zr_nd (fun c => c < 64) (τ 19 p)) : zr_E (fn_X3_searchOver σ p fnd).1 (fn_X4_over τ (nI p) fnd).1 := by
  have hc : (nI p).toNatClampNeg = p := zq_c (by omega)
  obtain ⟨⟨en, eb, ⟨e32, e33, e34⟩, ep, est, erow⟩, e1⟩ := id hE
  obtain ⟨p10, p11, p12, p13, p14, p15, p16, p21, p22, p24, p26, p30, p29⟩ := ep p hp
  obtain ⟨q1, q2, q3, q4, q5⟩ := e1 p hp
  have hne0 : τ 10 p ≠ 0 := fun z => by rw [z] at hpl; exact absurd hpl (by decide)
  have q1 := q1 hne0
  have q3 := q3 hpl
  obtain ⟨⟨kk, hkk, ek⟩, ⟨hd4, ed, hb16, eb16, hst⟩, h21, h24, hoe⟩ := id hB
  have hends := fun v => ze_end hE hp hd4 ed ((hI.1.2.2.2.2.2.2.2.2.1 p hp).imp (fun n hn => hn.1)) v
  have h7 : zr_E (zs_u σ 10 p 7) (zs_u τ 10 p 7) := by
    refine zr_E_up (p := p) hE hp ?_ ?_ ?_ ?_ ?_ ?_ ?_ ?_ ?_
    · intro c k hc8 hk64
      have ee := en c k hc8 hk64
      rcases (show c = 0 ∨ c = 1 ∨ c = 2 ∨ c = 3 ∨ c = 4 ∨ c = 5 ∨ c = 6 ∨ c = 7 by omega) with rfl | rfl | rfl | rfl | rfl | rfl | rfl | rfl <;> simp [zs_u, ee, e34, zs_n3, zs_n4, zs_n5]
    · intro b0 hb0; simp [zs_u, eb b0 hb0, zs_n3, zs_n4, zs_n5]
    · simp [zs_u, e32, e33, e34, zs_n3, zs_n4, zs_n5]
    · intro q hq hne; have f1 : ¬ q = 4 + p := by omega
      have f2 : ¬ 4 + q = p := by omega
      have f3 : ¬ 44 + q = 40 + (4 + p) := by omega
      have f4 : ¬ 40 + q = 40 + (4 + p) := by omega
      have f5 : ¬ 44 + q = 40 + p := by omega
      have f6 : ¬ q = 4 + q := by omega
      have f7 : ¬ 4 + q = 4 + p := by omega
      simp [zr_VC, zs_u, hne, f1, f2, f3, f4, f5, f6, f7, zs_n1, zs_n2, zs_n3, zs_n4, zs_n5]
    · intro q hq hne; simp [zr_VM, zs_u, hne]
    · simp [zs_u, zs_n1, zs_n2, zs_n3, zs_n4, zs_n5, p10, p11, p12, p13, p14, p15, p16, p21, p22, p24, p26, p30, p29, e32, e33, e34]
    · intro j hj hlt; have := est p j hp hj (by simpa [zs_u] using hlt); simpa [zs_u, zs_n1, zs_n2, zs_n3, zs_n4, zs_n5] using this
    · intro j hj hlt; have := erow p j hp hj (by simpa [zs_u] using hlt); simpa [zs_u, zs_n1, zs_n2, zs_n3, zs_n4, zs_n5] using this
    · exact ⟨fun _ => by simp [zs_u, q1], fun z => by simp [zs_u] at z, fun _ => by simp [zs_u, q3], fun z => by simp [zs_u] at z, fun z => by simp [zs_u] at z ⊢; exact q5 (Or.inr (Or.inr z))⟩
  by_cases hd : 0 < τ 30 p
  · have hdn : ¬ σ 30 p = 0 := fun z => by rw [← p30, z] at hd; exact absurd hd (by decide)
    have hem : fr_X1_isEmpty σ p = 0 := by unfold fr_X1_isEmpty; rw [if_neg hdn]
    by_cases h0 : fnd = 0
    · have hσ : (fn_X3_searchOver σ p fnd).1 = zs_u (zs_u σ 23 p (σ 19 p)) 10 p 7 := by unfold fn_X3_searchOver; rw [if_pos hem, if_pos h0]
      have hτ : (fn_X4_over τ (nI p) fnd).1 = zs_u τ 10 p 7 := by unfold fn_X4_over; rw [hc, if_pos hd, if_pos h0]
      rw [hσ, hτ]
      refine zr_E_up (p := p) hE hp ?_ ?_ ?_ ?_ ?_ ?_ ?_ ?_ ?_
      · intro c k hc8 hk64
        have ee := en c k hc8 hk64
        rcases (show c = 0 ∨ c = 1 ∨ c = 2 ∨ c = 3 ∨ c = 4 ∨ c = 5 ∨ c = 6 ∨ c = 7 by omega) with rfl | rfl | rfl | rfl | rfl | rfl | rfl | rfl <;> simp [zs_u, ee, e34, zs_n3, zs_n4, zs_n5]
      · intro b0 hb0; simp [zs_u, eb b0 hb0, zs_n3, zs_n4, zs_n5]
      · simp [zs_u, e32, e33, e34, zs_n3, zs_n4, zs_n5]
      · intro q hq hne; have f1 : ¬ q = 4 + p := by omega
        have f2 : ¬ 4 + q = p := by omega
        have f3 : ¬ 44 + q = 40 + (4 + p) := by omega
        have f4 : ¬ 40 + q = 40 + (4 + p) := by omega
        have f5 : ¬ 44 + q = 40 + p := by omega
        have f6 : ¬ q = 4 + q := by omega
        have f7 : ¬ 4 + q = 4 + p := by omega
        simp [zr_VC, zs_u, hne, f1, f2, f3, f4, f5, f6, f7, zs_n1, zs_n2, zs_n3, zs_n4, zs_n5]
      · intro q hq hne; simp [zr_VM, zs_u, hne]
      · simp [zs_u, zs_n1, zs_n2, zs_n3, zs_n4, zs_n5, p10, p11, p12, p13, p14, p15, p16, p21, p22, p24, p26, p30, p29, e32, e33, e34]
      · intro j hj hlt; have := est p j hp hj (by simpa [zs_u] using hlt); simpa [zs_u, zs_n1, zs_n2, zs_n3, zs_n4, zs_n5] using this
      · intro j hj hlt; have := erow p j hp hj (by simpa [zs_u] using hlt); simpa [zs_u, zs_n1, zs_n2, zs_n3, zs_n4, zs_n5] using this
      · exact ⟨fun _ => by simp [zs_u, q1], fun z => by simp [zs_u] at z, fun _ => by simp [zs_u, q3], fun z => by simp [zs_u] at z, fun z => by simp [zs_u] at z ⊢; exact q5 (Or.inr (Or.inr z))⟩
    · have hσ : (fn_X3_searchOver σ p fnd).1 = zs_u (zs_u σ 23 p (σ 19 p)) 10 p 9 := by unfold fn_X3_searchOver; rw [if_pos hem, if_neg h0]
      have hτ : (fn_X4_over τ (nI p) fnd).1 = zs_u (zs_u (zs_u τ 10 p 7) 10 p 9) 23 p (τ 19 p) := by unfold fn_X4_over; rw [hc, if_pos hd, if_neg h0]; rfl
      rw [hσ, hτ]
      refine zr_E_up (p := p) hE hp ?_ ?_ ?_ ?_ ?_ ?_ ?_ ?_ ?_
      · intro c k hc8 hk64
        have ee := en c k hc8 hk64
        rcases (show c = 0 ∨ c = 1 ∨ c = 2 ∨ c = 3 ∨ c = 4 ∨ c = 5 ∨ c = 6 ∨ c = 7 by omega) with rfl | rfl | rfl | rfl | rfl | rfl | rfl | rfl <;> simp [zs_u, ee, e34, zs_n3, zs_n4, zs_n5]
      · intro b0 hb0; simp [zs_u, eb b0 hb0, zs_n3, zs_n4, zs_n5]
      · simp [zs_u, e32, e33, e34, zs_n3, zs_n4, zs_n5]
      · intro q hq hne; have f1 : ¬ q = 4 + p := by omega
        have f2 : ¬ 4 + q = p := by omega
        have f3 : ¬ 44 + q = 40 + (4 + p) := by omega
        have f4 : ¬ 40 + q = 40 + (4 + p) := by omega
        have f5 : ¬ 44 + q = 40 + p := by omega
        have f6 : ¬ q = 4 + q := by omega
        have f7 : ¬ 4 + q = 4 + p := by omega
        simp [zr_VC, zs_u, hne, f1, f2, f3, f4, f5, f6, f7, zs_n1, zs_n2, zs_n3, zs_n4, zs_n5]
      · intro q hq hne; simp [zr_VM, zs_u, hne]
      · simp [zs_u, zs_n1, zs_n2, zs_n3, zs_n4, zs_n5, p10, p11, p12, p13, p14, p15, p16, p21, p22, p24, p26, p30, p29, e32, e33, e34]
      · intro j hj hlt; have := est p j hp hj (by simpa [zs_u] using hlt); simpa [zs_u, zs_n1, zs_n2, zs_n3, zs_n4, zs_n5] using this
      · intro j hj hlt; have := erow p j hp hj (by simpa [zs_u] using hlt); simpa [zs_u, zs_n1, zs_n2, zs_n3, zs_n4, zs_n5] using this
      · exact ⟨fun _ => by simp [zs_u, q1], fun z => by simp [zs_u] at z, fun _ => by simp [zs_u, q3], fun _ => by simp [zs_u, q1], fun z => by simp [zs_u] at z ⊢; exact q5 (Or.inr (Or.inr z))⟩
  · have hdn : σ 30 p = 0 := by
      rw [p30, ed]
      rw [ed] at hd
      exact Classical.byContradiction fun z => hd ((zq_d0 hd4).mpr z)
    have hem : ¬ fr_X1_isEmpty σ p = 0 := by unfold fr_X1_isEmpty; rw [if_pos hdn]; decide
    by_cases hcl : τ 24 p = 0
    · have hcl' : σ 24 p = 0 := p24.trans hcl
      by_cases ho0 : τ 11 p = 0
      · have ho0' : σ 11 p = 0 := p11.trans ho0
        by_cases h0 : fnd = 0
        · have hσ : (fn_X3_searchOver σ p fnd).1 = (fn_X3_end σ p (-1)).1 := by unfold fn_X3_searchOver; rw [if_neg hem, if_pos hcl', if_pos ho0', if_pos h0]
          have hτ : (fn_X4_over τ (nI p) fnd).1 = (fn_X4_ends τ (nI p) (-1)).1 := by unfold fn_X4_over; rw [hc, if_neg hd, if_pos hcl, if_pos ho0, if_pos h0]
          rw [hσ, hτ]; exact hends _
        · obtain ⟨c, ec, hcl64⟩ := hfnd h0
          have hσ : (fn_X3_searchOver σ p fnd).1 = (fn_X3_end σ p (τ 5 c)).1 := by
            unfold fn_X3_searchOver
            rw [if_neg hem, if_pos hcl', if_pos ho0', if_neg h0, q1.2.1, ec, zd_valueOf hcl64, en 5 c (by decide) hcl64]
          have hτ : (fn_X4_over τ (nI p) fnd).1 = (fn_X4_ends τ (nI p) (τ 5 c)).1 := by unfold fn_X4_over; rw [hc, if_neg hd, if_pos hcl, if_pos ho0, if_neg h0, ec, zq_c (by omega)]
          rw [hσ, hτ]; exact hends _
      · have ho0' : ¬ σ 11 p = 0 := fun z => ho0 (p11.symm.trans z)
        by_cases ho1 : τ 11 p = 1
        · have ho1' : σ 11 p = 1 := p11.trans ho1
          by_cases h0 : fnd = 0
          · have hσ : (fn_X3_searchOver σ p fnd).1 = zs_u σ 10 p 7 := by unfold fn_X3_searchOver; rw [if_neg hem, if_pos hcl', if_neg ho0', if_pos ho1', if_pos h0, if_pos ho1']
            have hτ : (fn_X4_over τ (nI p) fnd).1 = zs_u τ 10 p 7 := by unfold fn_X4_over; rw [hc, if_neg hd, if_pos hcl, if_neg ho0, if_pos ho1, if_pos h0]
            rw [hσ, hτ]; exact h7
          · have hσ : (fn_X3_searchOver σ p fnd).1 = (fn_X3_end σ p 0).1 := by unfold fn_X3_searchOver; rw [if_neg hem, if_pos hcl', if_neg ho0', if_pos ho1', if_neg h0]
            have hτ : (fn_X4_over τ (nI p) fnd).1 = (fn_X4_ends τ (nI p) 0).1 := by unfold fn_X4_over; rw [hc, if_neg hd, if_pos hcl, if_neg ho0, if_pos ho1, if_neg h0]
            rw [hσ, hτ]; exact hends _
        · have ho1' : ¬ σ 11 p = 1 := fun z => ho1 (p11.symm.trans z)
          by_cases h0 : fnd = 0
          · have hσ : (fn_X3_searchOver σ p fnd).1 = (fn_X3_end σ p (-1)).1 := by unfold fn_X3_searchOver; rw [if_neg hem, if_pos hcl', if_neg ho0', if_neg ho1', if_neg ho1', if_pos h0]
            have hτ : (fn_X4_over τ (nI p) fnd).1 = (fn_X4_ends τ (nI p) (-1)).1 := by unfold fn_X4_over; rw [hc, if_neg hd, if_pos hcl, if_neg ho0, if_neg ho1, if_pos h0]
            rw [hσ, hτ]; exact hends _
          · have hσ : (fn_X3_searchOver σ p fnd).1 = zs_u σ 10 p 10 := by unfold fn_X3_searchOver; rw [if_neg hem, if_pos hcl', if_neg ho0', if_neg ho1', if_neg ho1', if_neg h0]
            have hτ : (fn_X4_over τ (nI p) fnd).1 = zs_u τ 10 p 10 := by unfold fn_X4_over; rw [hc, if_neg hd, if_pos hcl, if_neg ho0, if_neg ho1, if_neg h0]
            rw [hσ, hτ]
            refine zr_E_up (p := p) hE hp ?_ ?_ ?_ ?_ ?_ ?_ ?_ ?_ ?_
            · intro c k hc8 hk64
              have ee := en c k hc8 hk64
              rcases (show c = 0 ∨ c = 1 ∨ c = 2 ∨ c = 3 ∨ c = 4 ∨ c = 5 ∨ c = 6 ∨ c = 7 by omega) with rfl | rfl | rfl | rfl | rfl | rfl | rfl | rfl <;> simp [zs_u, ee, e34, zs_n3, zs_n4, zs_n5]
            · intro b0 hb0; simp [zs_u, eb b0 hb0, zs_n3, zs_n4, zs_n5]
            · simp [zs_u, e32, e33, e34, zs_n3, zs_n4, zs_n5]
            · intro q hq hne; have f1 : ¬ q = 4 + p := by omega
              have f2 : ¬ 4 + q = p := by omega
              have f3 : ¬ 44 + q = 40 + (4 + p) := by omega
              have f4 : ¬ 40 + q = 40 + (4 + p) := by omega
              have f5 : ¬ 44 + q = 40 + p := by omega
              have f6 : ¬ q = 4 + q := by omega
              have f7 : ¬ 4 + q = 4 + p := by omega
              simp [zr_VC, zs_u, hne, f1, f2, f3, f4, f5, f6, f7, zs_n1, zs_n2, zs_n3, zs_n4, zs_n5]
            · intro q hq hne; simp [zr_VM, zs_u, hne]
            · simp [zs_u, zs_n1, zs_n2, zs_n3, zs_n4, zs_n5, p10, p11, p12, p13, p14, p15, p16, p21, p22, p24, p26, p30, p29, e32, e33, e34]
            · intro j hj hlt; have := est p j hp hj (by simpa [zs_u] using hlt); simpa [zs_u, zs_n1, zs_n2, zs_n3, zs_n4, zs_n5] using this
            · intro j hj hlt; have := erow p j hp hj (by simpa [zs_u] using hlt); simpa [zs_u, zs_n1, zs_n2, zs_n3, zs_n4, zs_n5] using this
            · exact ⟨fun _ => by simp [zs_u, q1], fun z => by simp [zs_u] at z, fun _ => by simp [zs_u, q3], fun z => by simp [zs_u] at z, fun z => by simp [zs_u] at z ⊢; exact q5 (Or.inr (Or.inr z))⟩
    · have hcl' : ¬ σ 24 p = 0 := fun z => hcl (p24.symm.trans z)
      have hcl1 : τ 24 p = 1 := by rcases h24 with z | z; exact absurd z hcl; exact z
      have hσ : (fn_X3_searchOver σ p fnd).1 = zs_u σ 10 p 12 := by unfold fn_X3_searchOver; rw [if_neg hem, if_neg hcl']
      have hτ : (fn_X4_over τ (nI p) fnd).1 = zs_u τ 10 p 12 := by unfold fn_X4_over; rw [hc, if_neg hd, if_neg hcl]
      rw [hσ, hτ]
      refine zr_E_up (p := p) hE hp ?_ ?_ ?_ ?_ ?_ ?_ ?_ ?_ ?_
      · intro c k hc8 hk64
        have ee := en c k hc8 hk64
        rcases (show c = 0 ∨ c = 1 ∨ c = 2 ∨ c = 3 ∨ c = 4 ∨ c = 5 ∨ c = 6 ∨ c = 7 by omega) with rfl | rfl | rfl | rfl | rfl | rfl | rfl | rfl <;> simp [zs_u, ee, e34, zs_n3, zs_n4, zs_n5]
      · intro b0 hb0; simp [zs_u, eb b0 hb0, zs_n3, zs_n4, zs_n5]
      · simp [zs_u, e32, e33, e34, zs_n3, zs_n4, zs_n5]
      · intro q hq hne; have f1 : ¬ q = 4 + p := by omega
        have f2 : ¬ 4 + q = p := by omega
        have f3 : ¬ 44 + q = 40 + (4 + p) := by omega
        have f4 : ¬ 40 + q = 40 + (4 + p) := by omega
        have f5 : ¬ 44 + q = 40 + p := by omega
        have f6 : ¬ q = 4 + q := by omega
        have f7 : ¬ 4 + q = 4 + p := by omega
        simp [zr_VC, zs_u, hne, f1, f2, f3, f4, f5, f6, f7, zs_n1, zs_n2, zs_n3, zs_n4, zs_n5]
      · intro q hq hne; simp [zr_VM, zs_u, hne]
      · simp [zs_u, zs_n1, zs_n2, zs_n3, zs_n4, zs_n5, p10, p11, p12, p13, p14, p15, p16, p21, p22, p24, p26, p30, p29, e32, e33, e34]
      · intro j hj hlt; have := est p j hp hj (by simpa [zs_u] using hlt); simpa [zs_u, zs_n1, zs_n2, zs_n3, zs_n4, zs_n5] using this
      · intro j hj hlt; have := erow p j hp hj (by simpa [zs_u] using hlt); simpa [zs_u, zs_n1, zs_n2, zs_n3, zs_n4, zs_n5] using this
      · exact ⟨fun _ => by simp [zs_u, q1], fun z => by simp [zs_u] at z, fun _ => by simp [zs_u, q3], fun z => by simp [zs_u] at z, fun _ => by simpa [zs_u] using q5 (Or.inr (Or.inr hcl1))⟩
theorem ze_4 {N p : Nat} {σ τ : zs_T} (hE : zr_E σ τ) (hI : zr_I N τ) (hp : p < 4) (h : τ 10 p = 4) : zr_E (fn_X3_advance σ p).1 (fn_X4_oneStep τ (nI p)).1 ∧ ok_X3_advance σ p := by
  have hc : (nI p).toNatClampNeg = p := zq_c (by omega)
  obtain ⟨d, b, hB, -, -⟩ := (hI.2 p hp).B
  obtain ⟨⟨en, eb, ⟨e32, e33, e34⟩, ep, est, erow⟩, e1⟩ := id hE
  obtain ⟨p10, p11, p12, p13, p14, p15, p16, p21, p22, p24, p26, p30, p29⟩ := ep p hp
  obtain ⟨q1, q2, q3, q4, q5⟩ := e1 p hp
  obtain ⟨⟨kk, hkk, ek⟩, ⟨hd4, ed, hb16, eb16, hst⟩, h21, h24, hoe⟩ := id hB
  have hs10 : σ 10 p = 4 := p10.trans h
  have hA : (fn_X3_advance σ p).1 = (fn_X3_loadCur σ p).1 := by unfold fn_X3_advance; rw [if_neg (by rw [hs10]; decide), if_neg (by rw [hs10]; decide), if_neg (by rw [hs10]; decide), if_pos hs10]
  have hq1 := q1 (by rw [h]; decide)
  have hq3 := q3 (by rw [h]; decide)
  have hcu := (hI.2 p hp).cu4 h
  have eif : fn_X4_oneStep τ (nI p) = (if τ 19 p < 0 then ((fn_X4_over τ (nI p) 0).1, 0) else (if (fn_X4_reads τ (nI p)).2 = 0 then ((fn_X4_reads τ (nI p)).1, 0) else ((zs_u (zs_u (zs_u (fn_X4_reads τ (nI p)).1 20 p (((fn_X4_reads τ (nI p)).1) 2 ((((fn_X4_reads τ (nI p)).1) 19 p).toNatClampNeg))) 21 p ((fn_X4_reads τ (nI p)).1 3 ((((fn_X4_reads τ (nI p)).1) 19 p).toNatClampNeg))) 10 p 5), 0))) := by
    unfold fn_X4_oneStep
    rw [hc, if_neg (by rw [h]; decide), if_neg (by rw [h]; decide), if_neg (by rw [h]; decide), if_pos h]
    rfl
  have q1 := hq1
  have q3 := hq3
  rw [hA, eif]
  rcases hcu with hcu | ⟨c, ec, hcP⟩
  · have hov := ze_over hE hI hp hB (by rw [h]; decide) 0 (fun z => absurd rfl z)
    have hcu' : σ 19 p = -1 := q1.2.1.trans hcu
    refine ⟨?_, ?_⟩
    · have hσ : (fn_X3_loadCur σ p).1 = (fn_X3_searchOver σ p 0).1 := by unfold fn_X3_loadCur; rw [hcu', zd_nd0, if_pos rfl]
      rw [hσ, if_pos (show τ 19 p < 0 by rw [hcu]; decide)]
      exact hov
    · unfold ok_X3_advance ok_X3_loadCur
      simp [hs10, hcu', zd_nd0]
  · have hcl := hcP.lt
    have hcc : (nI c).toNatClampNeg = c := zq_c (by omega)
    have hvc : vp_in (nI c) 64 := zq_in hcl (by decide)
    have hcn : ¬ nI c < 0 := zq_ge (by omega)
    have hcu' : σ 19 p = nI c := q1.2.1.trans ec
    have hm3 : zs_B (σ 3 c) := by rw [en 3 c (by decide) hcl]; exact hI.1.1 c hcl
    rw [if_neg (show ¬ τ 19 p < 0 by rw [ec]; exact hcn)]
    by_cases he : τ 15 p = τ 34 0
    · have er : fn_X4_reads τ (nI p) = (τ, 1) := by unfold fn_X4_reads; rw [hc, if_pos he]
      have em : fn_X3_mayLoad σ p = (σ, 1) := by unfold fn_X3_mayLoad; rw [p15, e34, if_pos he]
      refine ⟨?_, ?_⟩
      · have hσ : (fn_X3_loadCur σ p).1 = zs_u (zs_u (zs_u σ 20 p (τ 2 c)) 21 p (τ 3 c)) 10 p 5 := by
          unfold fn_X3_loadCur
          rw [hcu', zd_nd hcl, if_neg (by decide), em, if_neg (show ¬ ((1 : Int32) = 0) by decide)]
          show zs_u (zs_u (zs_u σ 20 p (σ 2 (σ 19 p).toNatClampNeg)) 21 p (σ 3 (σ 19 p).toNatClampNeg)) 10 p 5 = _
          rw [hcu', hcc, en 2 c (by decide) hcl, en 3 c (by decide) hcl]
        rw [hσ, er, if_neg (show ¬ ((1 : Int32) = 0) by decide)]
        show zr_E _ (zs_u (zs_u (zs_u τ 20 p (τ 2 (τ 19 p).toNatClampNeg)) 21 p (τ 3 (τ 19 p).toNatClampNeg)) 10 p 5)
        rw [ec, hcc]
        refine zr_E_up (p := p) hE hp ?_ ?_ ?_ ?_ ?_ ?_ ?_ ?_ ?_
        · intro c k hc8 hk64
          have ee := en c k hc8 hk64
          rcases (show c = 0 ∨ c = 1 ∨ c = 2 ∨ c = 3 ∨ c = 4 ∨ c = 5 ∨ c = 6 ∨ c = 7 by omega) with rfl | rfl | rfl | rfl | rfl | rfl | rfl | rfl <;> simp [zs_u, ee, e34, zs_n3, zs_n4, zs_n5]
        · intro b0 hb0; simp [zs_u, eb b0 hb0, zs_n3, zs_n4, zs_n5]
        · simp [zs_u, e32, e33, e34, zs_n3, zs_n4, zs_n5]
        · intro q hq hne; have f1 : ¬ q = 4 + p := by omega
          have f2 : ¬ 4 + q = p := by omega
          have f3 : ¬ 44 + q = 40 + (4 + p) := by omega
          have f4 : ¬ 40 + q = 40 + (4 + p) := by omega
          have f5 : ¬ 44 + q = 40 + p := by omega
          have f6 : ¬ q = 4 + q := by omega
          have f7 : ¬ 4 + q = 4 + p := by omega
          simp [zr_VC, zs_u, hne, f1, f2, f3, f4, f5, f6, f7, zs_n1, zs_n2, zs_n3, zs_n4, zs_n5]
        · intro q hq hne; simp [zr_VM, zs_u, hne]
        · simp [zs_u, zs_n1, zs_n2, zs_n3, zs_n4, zs_n5, p10, p11, p12, p13, p14, p15, p16, p21, p22, p24, p26, p30, p29, e32, e33, e34, h]
        · intro j hj hlt; have := est p j hp hj (by simpa [zs_u] using hlt); simpa [zs_u, zs_n1, zs_n2, zs_n3, zs_n4, zs_n5] using this
        · intro j hj hlt; have := erow p j hp hj (by simpa [zs_u] using hlt); simpa [zs_u, zs_n1, zs_n2, zs_n3, zs_n4, zs_n5] using this
        · exact ⟨fun _ => by simp [zs_u, q1], fun z => by simp [zs_u] at z, fun _ => by simp [zs_u, q3], fun z => by simp [zs_u] at z, fun z => by simp [zs_u] at z ⊢; exact q5 (Or.inr (Or.inr z))⟩
      · unfold ok_X3_advance ok_X3_loadCur
        simp [hs10, em, zs_u, hcu', zd_nd hcl, hvc, hcc, hm3]
    · have er : fn_X4_reads τ (nI p) = (zs_u τ 15 p (τ 34 0), 0) := by unfold fn_X4_reads; rw [hc, if_neg he]
      have em : fn_X3_mayLoad σ p = (zs_u σ 15 p (τ 34 0), 0) := by unfold fn_X3_mayLoad; rw [p15, e34, if_neg he]
      refine ⟨?_, ?_⟩
      · have hσ : (fn_X3_loadCur σ p).1 = zs_u σ 15 p (τ 34 0) := by
          unfold fn_X3_loadCur
          rw [hcu', zd_nd hcl, if_neg (by decide), em, if_pos rfl]
        rw [hσ, er, if_pos rfl]
        show zr_E _ (zs_u τ 15 p (τ 34 0))
        refine zr_E_up (p := p) hE hp ?_ ?_ ?_ ?_ ?_ ?_ ?_ ?_ ?_
        · intro c k hc8 hk64
          have ee := en c k hc8 hk64
          rcases (show c = 0 ∨ c = 1 ∨ c = 2 ∨ c = 3 ∨ c = 4 ∨ c = 5 ∨ c = 6 ∨ c = 7 by omega) with rfl | rfl | rfl | rfl | rfl | rfl | rfl | rfl <;> simp [zs_u, ee, e34, zs_n3, zs_n4, zs_n5]
        · intro b0 hb0; simp [zs_u, eb b0 hb0, zs_n3, zs_n4, zs_n5]
        · simp [zs_u, e32, e33, e34, zs_n3, zs_n4, zs_n5]
        · intro q hq hne; have f1 : ¬ q = 4 + p := by omega
          have f2 : ¬ 4 + q = p := by omega
          have f3 : ¬ 44 + q = 40 + (4 + p) := by omega
          have f4 : ¬ 40 + q = 40 + (4 + p) := by omega
          have f5 : ¬ 44 + q = 40 + p := by omega
          have f6 : ¬ q = 4 + q := by omega
          have f7 : ¬ 4 + q = 4 + p := by omega
          simp [zr_VC, zs_u, hne, f1, f2, f3, f4, f5, f6, f7, zs_n1, zs_n2, zs_n3, zs_n4, zs_n5]
        · intro q hq hne; simp [zr_VM, zs_u, hne]
        · simp [zs_u, zs_n1, zs_n2, zs_n3, zs_n4, zs_n5, p10, p11, p12, p13, p14, p15, p16, p21, p22, p24, p26, p30, p29, e32, e33, e34, h]
        · intro j hj hlt; have := est p j hp hj (by simpa [zs_u] using hlt); simpa [zs_u, zs_n1, zs_n2, zs_n3, zs_n4, zs_n5] using this
        · intro j hj hlt; have := erow p j hp hj (by simpa [zs_u] using hlt); simpa [zs_u, zs_n1, zs_n2, zs_n3, zs_n4, zs_n5] using this
        · exact ⟨fun _ => q1, fun z => by simp [zs_u, h] at z, fun _ => q3, fun z => by simp [zs_u, h] at z, fun z => by simp [zs_u, h] at z ⊢; exact q5 (Or.inr (Or.inr z))⟩
      · unfold ok_X3_advance ok_X3_loadCur
        simp [hs10, em, hcu', zd_nd hcl]
theorem ze_5 {N p : Nat} {σ τ : zs_T} (hE : zr_E σ τ) (hI : zr_I N τ) (hp : p < 4) (h : τ 10 p = 5) : zr_E (fn_X3_advance σ p).1 (fn_X4_oneStep τ (nI p)).1 ∧ ok_X3_advance σ p := by
  have hc : (nI p).toNatClampNeg = p := zq_c (by omega)
  obtain ⟨d, b, hB, -, -⟩ := (hI.2 p hp).B
  obtain ⟨⟨en, eb, ⟨e32, e33, e34⟩, ep, est, erow⟩, e1⟩ := id hE
  obtain ⟨p10, p11, p12, p13, p14, p15, p16, p21, p22, p24, p26, p30, p29⟩ := ep p hp
  obtain ⟨q1, q2, q3, q4, q5⟩ := e1 p hp
  obtain ⟨⟨kk, hkk, ek⟩, ⟨hd4, ed, hb16, eb16, hst⟩, h21, h24, hoe⟩ := id hB
  have hs10 : σ 10 p = 5 := p10.trans h
  have hA : (fn_X3_advance σ p).1 = (fn_X3_compare σ p).1 := by unfold fn_X3_advance; rw [if_neg (by rw [hs10]; decide), if_neg (by rw [hs10]; decide), if_neg (by rw [hs10]; decide), if_neg (by rw [hs10]; decide), if_pos hs10]
  have q1 := q1 (by rw [h]; decide)
  have q3 := q3 (by rw [h]; decide)
  obtain ⟨a, ea, haP⟩ := (hI.2 p hp).pr5 h
  obtain ⟨⟨c, ec, hcP⟩, -⟩ := (hI.2 p hp).cu5 h
  have hal := haP.lt
  have hcl := hcP.lt
  have hca : (nI a).toNatClampNeg = a := zq_c (by omega)
  have hcc : (nI c).toNatClampNeg = c := zq_c (by omega)
  have s18 : σ 18 p = nI a := q1.1.trans ea
  have s19 : σ 19 p = nI c := q1.2.1.trans ec
  obtain ⟨hw, hokw⟩ := zd_w hE.1 hp hB
  have eif : (fn_X4_oneStep τ (nI p)).1 = (fn_X4_look τ (nI p)).1 := by
    unfold fn_X4_oneStep
    rw [hc, if_neg (by rw [h]; decide), if_neg (by rw [h]; decide), if_neg (by rw [h]; decide), if_neg (by rw [h]; decide), if_pos h]
  have h3 : zr_E (zs_u σ 10 p 3) (zs_u τ 10 p 3) := by
    refine zr_E_up (p := p) hE hp ?_ ?_ ?_ ?_ ?_ ?_ ?_ ?_ ?_
    · intro c k hc8 hk64
      have ee := en c k hc8 hk64
      rcases (show c = 0 ∨ c = 1 ∨ c = 2 ∨ c = 3 ∨ c = 4 ∨ c = 5 ∨ c = 6 ∨ c = 7 by omega) with rfl | rfl | rfl | rfl | rfl | rfl | rfl | rfl <;> simp [zs_u, ee, e34, zs_n3, zs_n4, zs_n5]
    · intro b0 hb0; simp [zs_u, eb b0 hb0, zs_n3, zs_n4, zs_n5]
    · simp [zs_u, e32, e33, e34, zs_n3, zs_n4, zs_n5]
    · intro q hq hne; have f1 : ¬ q = 4 + p := by omega
      have f2 : ¬ 4 + q = p := by omega
      have f3 : ¬ 44 + q = 40 + (4 + p) := by omega
      have f4 : ¬ 40 + q = 40 + (4 + p) := by omega
      have f5 : ¬ 44 + q = 40 + p := by omega
      have f6 : ¬ q = 4 + q := by omega
      have f7 : ¬ 4 + q = 4 + p := by omega
      simp [zr_VC, zs_u, hne, f1, f2, f3, f4, f5, f6, f7, zs_n1, zs_n2, zs_n3, zs_n4, zs_n5]
    · intro q hq hne; simp [zr_VM, zs_u, hne]
    · simp [zs_u, zs_n1, zs_n2, zs_n3, zs_n4, zs_n5, p10, p11, p12, p13, p14, p15, p16, p21, p22, p24, p26, p30, p29, e32, e33, e34, h]
    · intro j hj hlt; have := est p j hp hj (by simpa [zs_u] using hlt); simpa [zs_u, zs_n1, zs_n2, zs_n3, zs_n4, zs_n5] using this
    · intro j hj hlt; have := erow p j hp hj (by simpa [zs_u] using hlt); simpa [zs_u, zs_n1, zs_n2, zs_n3, zs_n4, zs_n5] using this
    · exact ⟨fun _ => by simp [zs_u, q1], fun z => by simp [zs_u] at z, fun _ => by simp [zs_u, q3], fun z => by simp [zs_u] at z, fun z => by simp [zs_u] at z ⊢; exact q5 (Or.inr (Or.inr z))⟩
  have hn2 := en 2 a (by decide) hal
  have hn3 := en 3 a (by decide) hal
  have hn1 := en 1 c (by decide) hcl
  refine ⟨?_, ?_⟩
  · rw [hA, eif]
    unfold fn_X3_compare fn_X4_look
    rw [hc, s18, s19, zd_nd hcl, if_neg (by decide), ea, ec, hca, hcc]
    by_cases hn : τ 2 a = nI c
    · by_cases hma : τ 3 a = 0
      · rw [if_neg (fun z => (zd_leads hal).mp z ⟨hn2.trans hn, hn3.trans hma⟩), if_pos hn, if_pos hma, p21, hw, hn1]
        by_cases h21' : τ 21 p = 0
        · rw [if_pos h21', if_pos h21']
          by_cases hlt : τ 1 c < fr_X4_wanted τ (nI p)
          · rw [if_pos hlt, if_pos hlt]
            show zr_E (zs_u (zs_u (zs_u σ 18 p (nI c)) 19 p (σ 20 p)) 10 p 4) (zs_u (zs_u (zs_u τ 18 p (nI c)) 19 p (τ 20 p)) 10 p 4)
            refine zr_E_up (p := p) hE hp ?_ ?_ ?_ ?_ ?_ ?_ ?_ ?_ ?_
            · intro c k hc8 hk64
              have ee := en c k hc8 hk64
              rcases (show c = 0 ∨ c = 1 ∨ c = 2 ∨ c = 3 ∨ c = 4 ∨ c = 5 ∨ c = 6 ∨ c = 7 by omega) with rfl | rfl | rfl | rfl | rfl | rfl | rfl | rfl <;> simp [zs_u, ee, e34, zs_n3, zs_n4, zs_n5]
            · intro b0 hb0; simp [zs_u, eb b0 hb0, zs_n3, zs_n4, zs_n5]
            · simp [zs_u, e32, e33, e34, zs_n3, zs_n4, zs_n5]
            · intro q hq hne; have f1 : ¬ q = 4 + p := by omega
              have f2 : ¬ 4 + q = p := by omega
              have f3 : ¬ 44 + q = 40 + (4 + p) := by omega
              have f4 : ¬ 40 + q = 40 + (4 + p) := by omega
              have f5 : ¬ 44 + q = 40 + p := by omega
              have f6 : ¬ q = 4 + q := by omega
              have f7 : ¬ 4 + q = 4 + p := by omega
              simp [zr_VC, zs_u, hne, f1, f2, f3, f4, f5, f6, f7, zs_n1, zs_n2, zs_n3, zs_n4, zs_n5]
            · intro q hq hne; simp [zr_VM, zs_u, hne]
            · simp [zs_u, zs_n1, zs_n2, zs_n3, zs_n4, zs_n5, p10, p11, p12, p13, p14, p15, p16, p21, p22, p24, p26, p30, p29, e32, e33, e34, h]
            · intro j hj hlt; have := est p j hp hj (by simpa [zs_u] using hlt); simpa [zs_u, zs_n1, zs_n2, zs_n3, zs_n4, zs_n5] using this
            · intro j hj hlt; have := erow p j hp hj (by simpa [zs_u] using hlt); simpa [zs_u, zs_n1, zs_n2, zs_n3, zs_n4, zs_n5] using this
            · exact ⟨fun _ => by simp [zs_u, q1], fun z => by simp [zs_u] at z, fun _ => by simp [zs_u, q3], fun z => by simp [zs_u] at z, fun z => by simp [zs_u] at z ⊢; exact q5 (Or.inr (Or.inr z))⟩
          · rw [if_neg hlt, if_neg hlt]
            by_cases heq : τ 1 c = fr_X4_wanted τ (nI p)
            · rw [if_pos heq, if_pos heq]
              exact ze_over hE hI hp hB (by rw [h]; decide) 1 (fun _ => ⟨c, ec, hcl⟩)
            · rw [if_neg heq, if_neg heq]
              exact ze_over hE hI hp hB (by rw [h]; decide) 0 (fun z => absurd rfl z)
        · rw [if_neg h21', if_neg h21']
          show zr_E (zs_u σ 10 p 6) (zs_u τ 10 p 6)
          refine zr_E_up (p := p) hE hp ?_ ?_ ?_ ?_ ?_ ?_ ?_ ?_ ?_
          · intro c k hc8 hk64
            have ee := en c k hc8 hk64
            rcases (show c = 0 ∨ c = 1 ∨ c = 2 ∨ c = 3 ∨ c = 4 ∨ c = 5 ∨ c = 6 ∨ c = 7 by omega) with rfl | rfl | rfl | rfl | rfl | rfl | rfl | rfl <;> simp [zs_u, ee, e34, zs_n3, zs_n4, zs_n5]
          · intro b0 hb0; simp [zs_u, eb b0 hb0, zs_n3, zs_n4, zs_n5]
          · simp [zs_u, e32, e33, e34, zs_n3, zs_n4, zs_n5]
          · intro q hq hne; have f1 : ¬ q = 4 + p := by omega
            have f2 : ¬ 4 + q = p := by omega
            have f3 : ¬ 44 + q = 40 + (4 + p) := by omega
            have f4 : ¬ 40 + q = 40 + (4 + p) := by omega
            have f5 : ¬ 44 + q = 40 + p := by omega
            have f6 : ¬ q = 4 + q := by omega
            have f7 : ¬ 4 + q = 4 + p := by omega
            simp [zr_VC, zs_u, hne, f1, f2, f3, f4, f5, f6, f7, zs_n1, zs_n2, zs_n3, zs_n4, zs_n5]
          · intro q hq hne; simp [zr_VM, zs_u, hne]
          · simp [zs_u, zs_n1, zs_n2, zs_n3, zs_n4, zs_n5, p10, p11, p12, p13, p14, p15, p16, p21, p22, p24, p26, p30, p29, e32, e33, e34, h]
          · intro j hj hlt; have := est p j hp hj (by simpa [zs_u] using hlt); simpa [zs_u, zs_n1, zs_n2, zs_n3, zs_n4, zs_n5] using this
          · intro j hj hlt; have := erow p j hp hj (by simpa [zs_u] using hlt); simpa [zs_u, zs_n1, zs_n2, zs_n3, zs_n4, zs_n5] using this
          · exact ⟨fun _ => by simp [zs_u, q1], fun z => by simp [zs_u] at z, fun _ => by simp [zs_u, q3], fun z => by simp [zs_u] at z, fun z => by simp [zs_u] at z ⊢; exact q5 (Or.inr (Or.inr z))⟩
      · rw [if_pos ((zd_leads hal).mpr (fun z => hma (hn3.symm.trans z.2))), if_pos hn, if_neg hma]
        exact h3
    · rw [if_pos ((zd_leads hal).mpr (fun z => hn (hn2.symm.trans z.1))), if_neg hn]
      exact h3
  · have hok : ok_X3_compare σ p := by
      unfold ok_X3_compare
      exact ⟨fun _ => trivial, fun _ => ⟨fun _ => trivial, fun _ => ⟨fun _ => ⟨hokw, trivial⟩, fun _ => trivial⟩⟩⟩
    unfold ok_X3_advance
    simp [hs10, hok]
