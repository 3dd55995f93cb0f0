theorem ze_6 {N p : Nat} {σ τ : zs_T} (hE : zr_E σ τ) (hI : zr_I N τ) (hN : N < 1000000) (hp : p < 4) (h : τ 10 p = 6) : zr_E (fn_X3_advance σ p).1 (fn_X4_oneStep τ (nI p)).1 ∧ ok_X3_advance σ p := by
  have hc : (nI p).toNatClampNeg = p := zq_c (by omega)
  obtain ⟨d, b, hB, -, -⟩ := (hI.2 p hp).B
  obtain ⟨⟨en, eb, ⟨e32, e33, e34⟩, ep, est, erow⟩, e1⟩ := id hE
  obtain ⟨p10, p11, p12, p13, p14, p15, p16, p21, p22, p24, p26, p30, p29⟩ := ep p hp
  obtain ⟨q1, q2, q3, q4, q5⟩ := e1 p hp
  obtain ⟨⟨kk, hkk, ek⟩, ⟨hd4, ed, hb16, eb16, hst⟩, h21, h24, hoe⟩ := id hB
  have hs10 : σ 10 p = 6 := p10.trans h
  have hA : (fn_X3_advance σ p).1 = (fn_X3_unlinkMarked σ p).1 := by unfold fn_X3_advance; rw [if_neg (by rw [hs10]; decide), if_neg (by rw [hs10]; decide), if_neg (by rw [hs10]; decide), if_neg (by rw [hs10]; decide), if_neg (by rw [hs10]; decide), if_pos hs10]
  have q1 := q1 (by rw [h]; decide)
  have q3 := q3 (by rw [h]; decide)
  obtain ⟨a, ea, haP⟩ := (hI.2 p hp).pr6 h
  obtain ⟨⟨c, ec, hcP⟩, -⟩ := (hI.2 p hp).cu6 h
  have hal := haP.lt
  have hcl := hcP.lt
  obtain ⟨hmc, hnc⟩ := (hI.2 p hp).m6 h c hcl ec
  obtain ⟨r, hr, er, -⟩ := hI.1.2.2.2.2.2.2.2.2.2.2.1 p hp
  have s18 : σ 18 p = nI a := q1.1.trans ea
  have s19 : σ 19 p = nI c := q1.2.1.trans ec
  have s20 := q1.2.2
  have hn2 := en 2 a (by decide) hal
  have hn3 := en 3 a (by decide) hal
  have er' : σ 30 (4 + p) = nI r := p29.trans er
  have g44 : (44 + p = 40 + (4 + p)) = True := by apply propext; constructor; intro _; trivial; intro _; omega
  have eif : fn_X4_oneStep τ (nI p) = (if (fn_X4_change (zs_u τ 10 p 3) (τ 18 p) (τ 19 p) (τ 20 p) 0).2 = 0 then ((fn_X4_change (zs_u τ 10 p 3) (τ 18 p) (τ 19 p) (τ 20 p) 0).1, 0) else ((zs_u (zs_u (fn_X4_retire (fn_X4_change (zs_u τ 10 p 3) (τ 18 p) (τ 19 p) (τ 20 p) 0).1 (nI p) ((fn_X4_change (zs_u τ 10 p 3) (τ 18 p) (τ 19 p) (τ 20 p) 0).1 19 p)).1 19 p ((fn_X4_retire (fn_X4_change (zs_u τ 10 p 3) (τ 18 p) (τ 19 p) (τ 20 p) 0).1 (nI p) ((fn_X4_change (zs_u τ 10 p 3) (τ 18 p) (τ 19 p) (τ 20 p) 0).1 19 p)).1 20 p)) 10 p 4), 0)) := by
    unfold fn_X4_oneStep
    rw [hc, if_neg (by rw [h]; decide), if_neg (by rw [h]; decide), if_neg (by rw [h]; decide), if_neg (by rw [h]; decide), if_neg (by rw [h]; decide), if_pos h]
    rfl
  have hokc : ok_X3_change σ (nI a) (nI c) (τ 20 p) 0 := zd_okchange hal (Or.inl rfl)
  by_cases hch : τ 2 a = nI c ∧ τ 3 a = 0
  · have haL := haP.L hI.1 hch.2
    have hun := zr_unlink (t2 := zs_u (zs_u (zs_u (zs_u (zs_u (zs_u (zs_u (zs_u (zs_u (zs_u τ 10 p 3) 2 a (τ 20 p)) 3 a 0) 0 c 2) 7 c (τ 34 0)) 34 0 (τ 34 0 + 1)) 28 (64 * p + r) (nI c)) 29 p (nI (r + 1))) 19 p (τ 20 p)) 10 p 4) hI.1 hN hp haL hch.1 hch.2 hcl hmc hnc er hr (fun k => by simp [zs_u]) (fun k => by simp [zs_u]) (fun k => by simp [zs_u]) (fun k => by simp [zs_u]) (fun k => by simp [zs_u]) (fun k => by simp [zs_u]) (by simp [zs_u]) rfl rfl rfl rfl rfl
    have hr63 := hun.1
    have ech : fn_X4_change (zs_u τ 10 p 3) (nI a) (nI c) (τ 20 p) 0 = (zs_u (zs_u (zs_u τ 10 p 3) 2 a (τ 20 p)) 3 a 0, 1) := zq_changeT hal hch.1 hch.2
    have ert := zq_retire (σ := zs_u (zs_u (zs_u τ 10 p 3) 2 a (τ 20 p)) 3 a 0) hp hcl hr er
    have ec1 : (zs_u (zs_u (zs_u τ 10 p 3) 2 a (τ 20 p)) 3 a 0) 19 p = nI c := ec
    have hτ : (fn_X4_oneStep τ (nI p)).1 = zs_u (zs_u (zs_u (zs_u (zs_u (zs_u (zs_u (zs_u (zs_u (zs_u τ 10 p 3) 2 a (τ 20 p)) 3 a 0) 0 c 2) 7 c (τ 34 0)) 34 0 (τ 34 0 + 1)) 28 (64 * p + r) (nI c)) 29 p (nI (r + 1))) 19 p (τ 20 p)) 10 p 4 := by
      rw [eif, ea, ec, ech, if_neg (show ¬ ((1 : Int32) = 0) by decide)]
      show zs_u (zs_u (fn_X4_retire (zs_u (zs_u (zs_u τ 10 p 3) 2 a (τ 20 p)) 3 a 0) (nI p) ((zs_u (zs_u (zs_u τ 10 p 3) 2 a (τ 20 p)) 3 a 0) 19 p)).1 19 p ((fn_X4_retire (zs_u (zs_u (zs_u τ 10 p 3) 2 a (τ 20 p)) 3 a 0) (nI p) ((zs_u (zs_u (zs_u τ 10 p 3) 2 a (τ 20 p)) 3 a 0) 19 p)).1 20 p)) 10 p 4 = _
      rw [ec1, ert]
      rfl
    have ech' : fn_X3_change σ (nI a) (nI c) (τ 20 p) 0 = (zs_u (zs_u σ 2 a (τ 20 p)) 3 a 0, 1) := zd_changeT hal ⟨hn2.trans hch.1, hn3.trans hch.2⟩
    have ert' := zd_retire (s := zs_u (zs_u σ 2 a (τ 20 p)) 3 a 0) (p := p) hcl hr63 er'
    have ec1' : (zs_u (zs_u σ 2 a (τ 20 p)) 3 a 0) 19 p = nI c := s19
    have hσ : (fn_X3_unlinkMarked σ p).1 = zs_u (zs_u (zs_u (zs_u (zs_u (zs_u (zs_u (zs_u (zs_u σ 2 a (τ 20 p)) 3 a 0) 0 c 2) 7 c (σ 34 0)) 34 0 (σ 34 0 + 1)) (40 + (4 + p)) r (nI c)) 30 (4 + p) (nI (r + 1))) 19 p (τ 20 p)) 10 p 4 := by
      unfold fn_X3_unlinkMarked
      rw [s18, s19, s20, ech', if_neg (show ¬ ((1 : Int32) = 0) by decide)]
      show zs_u (zs_u (fn_X3_retire (zs_u (zs_u σ 2 a (τ 20 p)) 3 a 0) p ((zs_u (zs_u σ 2 a (τ 20 p)) 3 a 0) 19 p)).1 19 p ((fn_X3_retire (zs_u (zs_u σ 2 a (τ 20 p)) 3 a 0) p ((zs_u (zs_u σ 2 a (τ 20 p)) 3 a 0) 19 p)).1 20 p)) 10 p 4 = _
      rw [ec1', ert']
      have : (zs_u (zs_u (zs_u (zs_u (zs_u (zs_u (zs_u σ 2 a (τ 20 p)) 3 a 0) 0 c 2) 7 c ((zs_u (zs_u σ 2 a (τ 20 p)) 3 a 0) 34 0)) 34 0 ((zs_u (zs_u σ 2 a (τ 20 p)) 3 a 0) 34 0 + 1)) (40 + (4 + p)) r (nI c)) 30 (4 + p) (nI (r + 1))) 20 p = τ 20 p := by rw [zs_uc (by decide), zs_uc (by omega)]; exact s20
      rw [this]
      rfl
    refine ⟨?_, ?_⟩
    · rw [hA, hσ, hτ, e34]
      refine zr_E_up (p := p) hE hp ?_ ?_ ?_ ?_ ?_ ?_ ?_ ?_ ?_
      · intro c k hc8 hk64
        have ee := en c k hc8 hk64
        rcases (show c = 0 ∨ c = 1 ∨ c = 2 ∨ c = 3 ∨ c = 4 ∨ c = 5 ∨ c = 6 ∨ c = 7 by omega) with rfl | rfl | rfl | rfl | rfl | rfl | rfl | rfl <;> simp [zs_u, ee, e34, zs_n3, zs_n4, zs_n5]
      · intro b0 hb0; simp [zs_u, eb b0 hb0, zs_n3, zs_n4, zs_n5]
      · simp [zs_u, e32, e33, e34, zs_n3, zs_n4, zs_n5]
      · intro q hq hne; have f1 : ¬ q = 4 + p := by omega
        have f2 : ¬ 4 + q = p := by omega
        have f3 : ¬ 44 + q = 40 + (4 + p) := by omega
        have f4 : ¬ 40 + q = 40 + (4 + p) := by omega
        have f5 : ¬ 44 + q = 40 + p := by omega
        have f6 : ¬ q = 4 + q := by omega
        have f7 : ¬ 4 + q = 4 + p := by omega
        simp [zr_VC, zs_u, hne, f1, f2, f3, f4, f5, f6, f7, zs_n1, zs_n2, zs_n3, zs_n4, zs_n5]
      · intro q hq hne; simp [zr_VM, zs_u, hne]
        intro j hj z; omega
      · simp [zs_u, zs_n1, zs_n2, zs_n3, zs_n4, zs_n5, p10, p11, p12, p13, p14, p15, p16, p21, p22, p24, p26, p30, p29, e32, e33, e34, h]
      · intro j hj hlt; have := est p j hp hj (by simpa [zs_u] using hlt); simpa [zs_u, zs_n1, zs_n2, zs_n3, zs_n4, zs_n5] using this
      · intro j hj hlt
        have hlt : nI j < nI (r + 1) := by simpa [zs_u] using hlt
        have hlt := (nI_ltI (by omega) (by omega)).mp hlt
        by_cases hjr : j = r
        · subst hjr; simp [zs_u, g44, zs_n2, zs_n1]
        · have := erow p j hp hj (by rw [er, nI_ltI (by omega) (by omega)]; omega)
          simpa [zs_u, g44, zs_n2, zs_n1, hjr] using this
      · exact ⟨fun _ => by simp [zs_u, q1, zs_n3, zs_n5], fun z => by simp [zs_u] at z, fun _ => by simp [zs_u, q3, zs_n3, zs_n5], fun z => by simp [zs_u] at z, fun z => by simp [zs_u, zs_n5] at z ⊢; exact q5 (Or.inr (Or.inr z))⟩
    · have hokr : ok_X3_retire (zs_u (zs_u σ 2 a (τ 20 p)) 3 a 0) p (nI c) := zd_okretire hcl hr63 er'
      have hok : ok_X3_unlinkMarked σ p := by
        unfold ok_X3_unlinkMarked
        rw [s18, s19, s20, ech']
        exact ⟨hokc, fun z => absurd z (show ¬ ((1 : Int32) = 0) by decide), fun _ => ⟨by show ok_X3_retire _ p ((zs_u (zs_u σ 2 a (τ 20 p)) 3 a 0) 19 p); rw [ec1']; exact hokr, trivial⟩⟩
      unfold ok_X3_advance
      simp [hs10, hok]
  · have ech : fn_X4_change (zs_u τ 10 p 3) (nI a) (nI c) (τ 20 p) 0 = (zs_u τ 10 p 3, 0) := zq_changeF hal hch
    have ech' : fn_X3_change σ (nI a) (nI c) (τ 20 p) 0 = (σ, 0) := zd_changeF hal (fun z => hch ⟨hn2.symm.trans z.1, hn3.symm.trans z.2⟩)
    have hτ : (fn_X4_oneStep τ (nI p)).1 = zs_u τ 10 p 3 := by rw [eif, ea, ec, ech, if_pos rfl]
    have hσ : (fn_X3_unlinkMarked σ p).1 = zs_u σ 10 p 3 := by unfold fn_X3_unlinkMarked; rw [s18, s19, s20, ech', if_pos rfl]
    refine ⟨?_, ?_⟩
    · rw [hA, hσ, hτ]
      refine zr_E_up (p := p) hE hp ?_ ?_ ?_ ?_ ?_ ?_ ?_ ?_ ?_
      · intro c k hc8 hk64
        have ee := en c k hc8 hk64
        rcases (show c = 0 ∨ c = 1 ∨ c = 2 ∨ c = 3 ∨ c = 4 ∨ c = 5 ∨ c = 6 ∨ c = 7 by omega) with rfl | rfl | rfl | rfl | rfl | rfl | rfl | rfl <;> simp [zs_u, ee, e34, zs_n3, zs_n4, zs_n5]
      · intro b0 hb0; simp [zs_u, eb b0 hb0, zs_n3, zs_n4, zs_n5]
      · simp [zs_u, e32, e33, e34, zs_n3, zs_n4, zs_n5]
      · intro q hq hne; have f1 : ¬ q = 4 + p := by omega
        have f2 : ¬ 4 + q = p := by omega
        have f3 : ¬ 44 + q = 40 + (4 + p) := by omega
        have f4 : ¬ 40 + q = 40 + (4 + p) := by omega
        have f5 : ¬ 44 + q = 40 + p := by omega
        have f6 : ¬ q = 4 + q := by omega
        have f7 : ¬ 4 + q = 4 + p := by omega
        simp [zr_VC, zs_u, hne, f1, f2, f3, f4, f5, f6, f7, zs_n1, zs_n2, zs_n3, zs_n4, zs_n5]
      · intro q hq hne; simp [zr_VM, zs_u, hne]
      · simp [zs_u, zs_n1, zs_n2, zs_n3, zs_n4, zs_n5, p10, p11, p12, p13, p14, p15, p16, p21, p22, p24, p26, p30, p29, e32, e33, e34, h]
      · intro j hj hlt; have := est p j hp hj (by simpa [zs_u] using hlt); simpa [zs_u, zs_n1, zs_n2, zs_n3, zs_n4, zs_n5] using this
      · intro j hj hlt; have := erow p j hp hj (by simpa [zs_u] using hlt); simpa [zs_u, zs_n1, zs_n2, zs_n3, zs_n4, zs_n5] using this
      · exact ⟨fun _ => by simp [zs_u, q1], fun z => by simp [zs_u] at z, fun _ => by simp [zs_u, q3], fun z => by simp [zs_u] at z, fun z => by simp [zs_u] at z ⊢; exact q5 (Or.inr (Or.inr z))⟩
    · have hok : ok_X3_unlinkMarked σ p := by
        unfold ok_X3_unlinkMarked
        rw [s18, s19, s20, ech']
        exact ⟨hokc, fun _ => trivial, fun z => absurd rfl z⟩
      unfold ok_X3_advance
      simp [hs10, hok]
theorem ze_11 {N p : Nat} {σ τ : zs_T} (hE : zr_E σ τ) (hI : zr_I N τ) (hN : N < 1000000) (hp : p < 4) (h : τ 10 p = 11) : zr_E (fn_X3_advance σ p).1 (fn_X4_oneStep τ (nI p)).1 ∧ ok_X3_advance σ p := by
  have hc : (nI p).toNatClampNeg = p := zq_c (by omega)
  obtain ⟨d, b, hB, -, -⟩ := (hI.2 p hp).B
  obtain ⟨⟨en, eb, ⟨e32, e33, e34⟩, ep, est, erow⟩, e1⟩ := id hE
  obtain ⟨p10, p11, p12, p13, p14, p15, p16, p21, p22, p24, p26, p30, p29⟩ := ep p hp
  obtain ⟨q1, q2, q3, q4, q5⟩ := e1 p hp
  obtain ⟨⟨kk, hkk, ek⟩, ⟨hd4, ed, hb16, eb16, hst⟩, h21, h24, hoe⟩ := id hB
  have hs10 : σ 10 p = 11 := p10.trans h
  have hA : (fn_X3_advance σ p).1 = (fn_X3_unlinkRemoved σ p).1 := by unfold fn_X3_advance; rw [if_neg (by rw [hs10]; decide), if_neg (by rw [hs10]; decide), if_neg (by rw [hs10]; decide), if_neg (by rw [hs10]; decide), if_neg (by rw [hs10]; decide), if_neg (by rw [hs10]; decide), if_neg (by rw [hs10]; decide), if_neg (by rw [hs10]; decide), if_neg (by rw [hs10]; decide), if_neg (by rw [hs10]; decide), if_pos hs10]
  have q1 := q1 (by rw [h]; decide)
  have q3 := q3 (by rw [h]; decide)
  have q5' := q5 (Or.inl h)
  obtain ⟨a, ea, haP⟩ := (hI.2 p hp).pr11 h
  obtain ⟨⟨c, ec, hcP⟩, -⟩ := (hI.2 p hp).cu11 h
  have hal := haP.lt
  have hcl := hcP.lt
  obtain ⟨hmc, hnc⟩ := (hI.2 p hp).m11 h c hcl ec
  obtain ⟨r, hr, er, -⟩ := hI.1.2.2.2.2.2.2.2.2.2.2.1 p hp
  have s18 : σ 18 p = nI a := q1.1.trans ea
  have s19 : σ 19 p = nI c := q1.2.1.trans ec
  have s20 := q1.2.2
  have hn2 := en 2 a (by decide) hal
  have hn3 := en 3 a (by decide) hal
  have er' : σ 30 (4 + p) = nI r := p29.trans er
  have g44 : (44 + p = 40 + (4 + p)) = True := by apply propext; constructor; intro _; trivial; intro _; omega
  have eif : fn_X4_oneStep τ (nI p) = (if (fn_X4_change τ (τ 18 p) (τ 19 p) (τ 20 p) 0).2 = 0 then ((zs_u (zs_u (fn_X4_change τ (τ 18 p) (τ 19 p) (τ 20 p) 0).1 24 p 1) 10 p 3), 0) else ((zs_u (fn_X4_retire (fn_X4_change τ (τ 18 p) (τ 19 p) (τ 20 p) 0).1 (nI p) ((fn_X4_change τ (τ 18 p) (τ 19 p) (τ 20 p) 0).1 19 p)).1 10 p 12), 0)) := by
    unfold fn_X4_oneStep
    rw [hc, if_neg (by rw [h]; decide), if_neg (by rw [h]; decide), if_neg (by rw [h]; decide), if_neg (by rw [h]; decide), if_neg (by rw [h]; decide), if_neg (by rw [h]; decide), if_neg (by rw [h]; decide), if_neg (by rw [h]; decide), if_neg (by rw [h]; decide), if_neg (by rw [h]; decide), if_pos h]
  have hokc : ok_X3_change σ (nI a) (nI c) (τ 20 p) 0 := zd_okchange hal (Or.inl rfl)
  by_cases hch : τ 2 a = nI c ∧ τ 3 a = 0
  · have haL := haP.L hI.1 hch.2
    have hun := zr_unlink (t2 := zs_u (zs_u (zs_u (zs_u (zs_u (zs_u (zs_u (zs_u τ 2 a (τ 20 p)) 3 a 0) 0 c 2) 7 c (τ 34 0)) 34 0 (τ 34 0 + 1)) 28 (64 * p + r) (nI c)) 29 p (nI (r + 1))) 10 p 12) hI.1 hN hp haL hch.1 hch.2 hcl hmc hnc er hr (fun k => by simp [zs_u]) (fun k => by simp [zs_u]) (fun k => by simp [zs_u]) (fun k => by simp [zs_u]) (fun k => by simp [zs_u]) (fun k => by simp [zs_u]) (by simp [zs_u]) rfl rfl rfl rfl rfl
    have hr63 := hun.1
    have ech : fn_X4_change τ (nI a) (nI c) (τ 20 p) 0 = (zs_u (zs_u τ 2 a (τ 20 p)) 3 a 0, 1) := zq_changeT hal hch.1 hch.2
    have ert := zq_retire (σ := zs_u (zs_u τ 2 a (τ 20 p)) 3 a 0) hp hcl hr er
    have ec1 : (zs_u (zs_u τ 2 a (τ 20 p)) 3 a 0) 19 p = nI c := ec
    have hτ : (fn_X4_oneStep τ (nI p)).1 = zs_u (zs_u (zs_u (zs_u (zs_u (zs_u (zs_u (zs_u τ 2 a (τ 20 p)) 3 a 0) 0 c 2) 7 c (τ 34 0)) 34 0 (τ 34 0 + 1)) 28 (64 * p + r) (nI c)) 29 p (nI (r + 1))) 10 p 12 := by
      rw [eif, ea, ec, ech, if_neg (show ¬ ((1 : Int32) = 0) by decide)]
      show zs_u (fn_X4_retire (zs_u (zs_u τ 2 a (τ 20 p)) 3 a 0) (nI p) ((zs_u (zs_u τ 2 a (τ 20 p)) 3 a 0) 19 p)).1 10 p 12 = _
      rw [ec1, ert]
      rfl
    have ech' : fn_X3_change σ (nI a) (nI c) (τ 20 p) 0 = (zs_u (zs_u σ 2 a (τ 20 p)) 3 a 0, 1) := zd_changeT hal ⟨hn2.trans hch.1, hn3.trans hch.2⟩
    have ert' := zd_retire (s := zs_u (zs_u σ 2 a (τ 20 p)) 3 a 0) (p := p) hcl hr63 er'
    have ec1' : (zs_u (zs_u σ 2 a (τ 20 p)) 3 a 0) 19 p = nI c := s19
    have hσ : (fn_X3_unlinkRemoved σ p).1 = zs_u (zs_u (zs_u (zs_u (zs_u (zs_u (zs_u (zs_u σ 2 a (τ 20 p)) 3 a 0) 0 c 2) 7 c (σ 34 0)) 34 0 (σ 34 0 + 1)) (40 + (4 + p)) r (nI c)) 30 (4 + p) (nI (r + 1))) 10 p 12 := by
      unfold fn_X3_unlinkRemoved
      rw [s18, s19, s20, ech', if_neg (show ¬ ((1 : Int32) = 0) by decide)]
      show zs_u (fn_X3_retire (zs_u (zs_u σ 2 a (τ 20 p)) 3 a 0) p ((zs_u (zs_u σ 2 a (τ 20 p)) 3 a 0) 19 p)).1 10 p 12 = _
      rw [ec1', ert']
      rfl
    refine ⟨?_, ?_⟩
    · rw [hA, hσ, hτ, e34]
      refine zr_E_up (p := p) hE hp ?_ ?_ ?_ ?_ ?_ ?_ ?_ ?_ ?_
      · intro c k hc8 hk64
        have ee := en c k hc8 hk64
        rcases (show c = 0 ∨ c = 1 ∨ c = 2 ∨ c = 3 ∨ c = 4 ∨ c = 5 ∨ c = 6 ∨ c = 7 by omega) with rfl | rfl | rfl | rfl | rfl | rfl | rfl | rfl <;> simp [zs_u, ee, e34, zs_n3, zs_n4, zs_n5]
      · intro b0 hb0; simp [zs_u, eb b0 hb0, zs_n3, zs_n4, zs_n5]
      · simp [zs_u, e32, e33, e34, zs_n3, zs_n4, zs_n5]
      · intro q hq hne; have f1 : ¬ q = 4 + p := by omega
        have f2 : ¬ 4 + q = p := by omega
        have f3 : ¬ 44 + q = 40 + (4 + p) := by omega
        have f4 : ¬ 40 + q = 40 + (4 + p) := by omega
        have f5 : ¬ 44 + q = 40 + p := by omega
        have f6 : ¬ q = 4 + q := by omega
        have f7 : ¬ 4 + q = 4 + p := by omega
        simp [zr_VC, zs_u, hne, f1, f2, f3, f4, f5, f6, f7, zs_n1, zs_n2, zs_n3, zs_n4, zs_n5]
      · intro q hq hne; simp [zr_VM, zs_u, hne]
        intro j hj z; omega
      · simp [zs_u, zs_n1, zs_n2, zs_n3, zs_n4, zs_n5, p10, p11, p12, p13, p14, p15, p16, p21, p22, p24, p26, p30, p29, e32, e33, e34, h]
      · intro j hj hlt; have := est p j hp hj (by simpa [zs_u] using hlt); simpa [zs_u, zs_n1, zs_n2, zs_n3, zs_n4, zs_n5] using this
      · intro j hj hlt
        have hlt : nI j < nI (r + 1) := by simpa [zs_u] using hlt
        have hlt := (nI_ltI (by omega) (by omega)).mp hlt
        by_cases hjr : j = r
        · subst hjr; simp [zs_u, g44, zs_n2, zs_n1]
        · have := erow p j hp hj (by rw [er, nI_ltI (by omega) (by omega)]; omega)
          simpa [zs_u, g44, zs_n2, zs_n1, hjr] using this
      · exact ⟨fun _ => by simp [zs_u, q1, zs_n3, zs_n5], fun z => by simp [zs_u] at z, fun _ => by simp [zs_u, q3, zs_n3, zs_n5], fun z => by simp [zs_u] at z, fun z => by simpa [zs_u, zs_n5] using q5'⟩
    · have hokr : ok_X3_retire (zs_u (zs_u σ 2 a (τ 20 p)) 3 a 0) p (nI c) := zd_okretire hcl hr63 er'
      have hok : ok_X3_unlinkRemoved σ p := by
        unfold ok_X3_unlinkRemoved
        rw [s18, s19, s20, ech']
        exact ⟨hokc, fun z => absurd z (show ¬ ((1 : Int32) = 0) by decide), fun _ => ⟨by show ok_X3_retire _ p ((zs_u (zs_u σ 2 a (τ 20 p)) 3 a 0) 19 p); rw [ec1']; exact hokr, trivial⟩⟩
      unfold ok_X3_advance
      simp [hs10, hok]
  · have ech : fn_X4_change τ (nI a) (nI c) (τ 20 p) 0 = (τ, 0) := zq_changeF hal hch
    have ech' : fn_X3_change σ (nI a) (nI c) (τ 20 p) 0 = (σ, 0) := zd_changeF hal (fun z => hch ⟨hn2.symm.trans z.1, hn3.symm.trans z.2⟩)
    have hτ : (fn_X4_oneStep τ (nI p)).1 = zs_u (zs_u τ 24 p 1) 10 p 3 := by rw [eif, ea, ec, ech, if_pos rfl]
    have hσ : (fn_X3_unlinkRemoved σ p).1 = zs_u (zs_u σ 24 p 1) 10 p 3 := by unfold fn_X3_unlinkRemoved; rw [s18, s19, s20, ech', if_pos rfl]
    refine ⟨?_, ?_⟩
    · rw [hA, hσ, hτ]
      refine zr_E_up (p := p) hE hp ?_ ?_ ?_ ?_ ?_ ?_ ?_ ?_ ?_
      · intro c k hc8 hk64
        have ee := en c k hc8 hk64
        rcases (show c = 0 ∨ c = 1 ∨ c = 2 ∨ c = 3 ∨ c = 4 ∨ c = 5 ∨ c = 6 ∨ c = 7 by omega) with rfl | rfl | rfl | rfl | rfl | rfl | rfl | rfl <;> simp [zs_u, ee, e34, zs_n3, zs_n4, zs_n5]
      · intro b0 hb0; simp [zs_u, eb b0 hb0, zs_n3, zs_n4, zs_n5]
      · simp [zs_u, e32, e33, e34, zs_n3, zs_n4, zs_n5]
      · intro q hq hne; have f1 : ¬ q = 4 + p := by omega
        have f2 : ¬ 4 + q = p := by omega
        have f3 : ¬ 44 + q = 40 + (4 + p) := by omega
        have f4 : ¬ 40 + q = 40 + (4 + p) := by omega
        have f5 : ¬ 44 + q = 40 + p := by omega
        have f6 : ¬ q = 4 + q := by omega
        have f7 : ¬ 4 + q = 4 + p := by omega
        simp [zr_VC, zs_u, hne, f1, f2, f3, f4, f5, f6, f7, zs_n1, zs_n2, zs_n3, zs_n4, zs_n5]
      · intro q hq hne; simp [zr_VM, zs_u, hne]
      · simp [zs_u, zs_n1, zs_n2, zs_n3, zs_n4, zs_n5, p10, p11, p12, p13, p14, p15, p16, p21, p22, p24, p26, p30, p29, e32, e33, e34, h]
      · intro j hj hlt; have := est p j hp hj (by simpa [zs_u] using hlt); simpa [zs_u, zs_n1, zs_n2, zs_n3, zs_n4, zs_n5] using this
      · intro j hj hlt; have := erow p j hp hj (by simpa [zs_u] using hlt); simpa [zs_u, zs_n1, zs_n2, zs_n3, zs_n4, zs_n5] using this
      · exact ⟨fun _ => by simp [zs_u, q1], fun z => by simp [zs_u] at z, fun _ => by simp [zs_u, q3], fun z => by simp [zs_u] at z, fun z => by simpa [zs_u] using q5'⟩
    · have hok : ok_X3_unlinkRemoved σ p := by
        unfold ok_X3_unlinkRemoved
        rw [s18, s19, s20, ech']
        exact ⟨hokc, fun _ => trivial, fun z => absurd rfl z⟩
      unfold ok_X3_advance
      simp [hs10, hok]
theorem ze_10 {N p : Nat} {σ τ : zs_T} (hE : zr_E σ τ) (hI : zr_I N τ) (hp : p < 4) (h : τ 10 p = 10) : zr_E (fn_X3_advance σ p).1 (fn_X4_oneStep τ (nI p)).1 ∧ ok_X3_advance σ p := by
  have hc : (nI p).toNatClampNeg = p := zq_c (by omega)
  obtain ⟨d, b, hB, -, -⟩ := (hI.2 p hp).B
  obtain ⟨⟨en, eb, ⟨e32, e33, e34⟩, ep, est, erow⟩, e1⟩ := id hE
  obtain ⟨p10, p11, p12, p13, p14, p15, p16, p21, p22, p24, p26, p30, p29⟩ := ep p hp
  obtain ⟨q1, q2, q3, q4, q5⟩ := e1 p hp
  obtain ⟨⟨kk, hkk, ek⟩, ⟨hd4, ed, hb16, eb16, hst⟩, h21, h24, hoe⟩ := id hB
  have hs10 : σ 10 p = 10 := p10.trans h
  have hA : (fn_X3_advance σ p).1 = (fn_X3_mark σ p).1 := by unfold fn_X3_advance; rw [if_neg (by rw [hs10]; decide), if_neg (by rw [hs10]; decide), if_neg (by rw [hs10]; decide), if_neg (by rw [hs10]; decide), if_neg (by rw [hs10]; decide), if_neg (by rw [hs10]; decide), if_neg (by rw [hs10]; decide), if_neg (by rw [hs10]; decide), if_neg (by rw [hs10]; decide), if_pos hs10]
  have q1 := q1 (by rw [h]; decide)
  have q3 := q3 (by rw [h]; decide)
  obtain ⟨⟨c, ec, hcP⟩, -⟩ := (hI.2 p hp).cu10 h
  have hcl := hcP.lt
  have hcc : (nI c).toNatClampNeg = c := zq_c (by omega)
  have s19 : σ 19 p = nI c := q1.2.1.trans ec
  have s20 := q1.2.2
  have hn2 := en 2 c (by decide) hcl
  have hn3 := en 3 c (by decide) hcl
  have hn5 := en 5 c (by decide) hcl
  have eif : fn_X4_oneStep τ (nI p) = (if (fn_X4_change (zs_u τ 10 p 3) (τ 19 p) (τ 20 p) (τ 20 p) 1).2 = 0 then ((fn_X4_change (zs_u τ 10 p 3) (τ 19 p) (τ 20 p) (τ 20 p) 1).1, 0) else ((zs_u (zs_u (zs_u (fn_X4_change (zs_u τ 10 p 3) (τ 19 p) (τ 20 p) (τ 20 p) 1).1 33 0 ((fn_X4_change (zs_u τ 10 p 3) (τ 19 p) (τ 20 p) (τ 20 p) 1).1 33 0 - 1)) 25 p ((fn_X4_change (zs_u τ 10 p 3) (τ 19 p) (τ 20 p) (τ 20 p) 1).1 5 ((fn_X4_change (zs_u τ 10 p 3) (τ 19 p) (τ 20 p) (τ 20 p) 1).1 19 p).toNatClampNeg)) 10 p 11), 0)) := by
    unfold fn_X4_oneStep
    rw [hc, if_neg (by rw [h]; decide), if_neg (by rw [h]; decide), if_neg (by rw [h]; decide), if_neg (by rw [h]; decide), if_neg (by rw [h]; decide), if_neg (by rw [h]; decide), if_neg (by rw [h]; decide), if_neg (by rw [h]; decide), if_neg (by rw [h]; decide), if_pos h]
    rfl
  have hok : ok_X3_mark σ p := by unfold ok_X3_mark; rw [s19]; exact ⟨zd_okchange hcl (Or.inr rfl), trivial⟩
  refine ⟨?_, by unfold ok_X3_advance; simp [hs10, hok]⟩
  by_cases hch : τ 2 c = τ 20 p ∧ τ 3 c = 0
  · have ech : fn_X4_change (zs_u τ 10 p 3) (nI c) (τ 20 p) (τ 20 p) 1 = (zs_u (zs_u (zs_u τ 10 p 3) 2 c (τ 20 p)) 3 c 1, 1) := zq_changeT hcl hch.1 hch.2
    have ech' : fn_X3_change σ (nI c) (τ 20 p) (τ 20 p) 1 = (zs_u (zs_u σ 2 c (τ 20 p)) 3 c 1, 1) := zd_changeT hcl ⟨hn2.trans hch.1, hn3.trans hch.2⟩
    have ec1 : (zs_u (zs_u (zs_u τ 10 p 3) 2 c (τ 20 p)) 3 c 1) 19 p = nI c := ec
    have ec1' : (zs_u (zs_u (zs_u σ 2 c (τ 20 p)) 3 c 1) 33 0 (σ 33 0 - 1)) 19 p = nI c := s19
    have hτ : (fn_X4_oneStep τ (nI p)).1 = zs_u (zs_u (zs_u (zs_u (zs_u (zs_u τ 10 p 3) 2 c (τ 20 p)) 3 c 1) 33 0 (τ 33 0 - 1)) 25 p (τ 5 c)) 10 p 11 := by
      rw [eif, ec, ech, if_neg (show ¬ ((1 : Int32) = 0) by decide)]
      show zs_u (zs_u (zs_u (zs_u (zs_u (zs_u τ 10 p 3) 2 c (τ 20 p)) 3 c 1) 33 0 (τ 33 0 - 1)) 25 p (τ 5 ((zs_u (zs_u (zs_u τ 10 p 3) 2 c (τ 20 p)) 3 c 1) 19 p).toNatClampNeg)) 10 p 11 = _
      rw [ec1, hcc]
    have hσ : (fn_X3_mark σ p).1 = zs_u (zs_u (zs_u (zs_u (zs_u σ 2 c (τ 20 p)) 3 c 1) 33 0 (σ 33 0 - 1)) 25 p (τ 5 c)) 10 p 11 := by
      unfold fn_X3_mark
      rw [s19, s20, ech', if_neg (show ¬ ((1 : Int32) = 0) by decide)]
      show zs_u (zs_u (zs_u (zs_u (zs_u σ 2 c (τ 20 p)) 3 c 1) 33 0 (σ 33 0 - 1)) 25 p (fr_X3_valueOf (zs_u (zs_u (zs_u σ 2 c (τ 20 p)) 3 c 1) 33 0 (σ 33 0 - 1)) ((zs_u (zs_u (zs_u σ 2 c (τ 20 p)) 3 c 1) 33 0 (σ 33 0 - 1)) 19 p))) 10 p 11 = _
      rw [ec1', zd_valueOf hcl, ← hn5]
      rfl
    rw [hA, hσ, hτ]
    refine zr_E_up (p := p) hE hp ?_ ?_ ?_ ?_ ?_ ?_ ?_ ?_ ?_
    · intro c k hc8 hk64
      have ee := en c k hc8 hk64
      rcases (show c = 0 ∨ c = 1 ∨ c = 2 ∨ c = 3 ∨ c = 4 ∨ c = 5 ∨ c = 6 ∨ c = 7 by omega) with rfl | rfl | rfl | rfl | rfl | rfl | rfl | rfl <;> simp [zs_u, ee, e34, zs_n3, zs_n4, zs_n5]
    · intro b0 hb0; simp [zs_u, eb b0 hb0, zs_n3, zs_n4, zs_n5]
    · simp [zs_u, e32, e33, e34, zs_n3, zs_n4, zs_n5]
    · intro q hq hne; have f1 : ¬ q = 4 + p := by omega
      have f2 : ¬ 4 + q = p := by omega
      have f3 : ¬ 44 + q = 40 + (4 + p) := by omega
      have f4 : ¬ 40 + q = 40 + (4 + p) := by omega
      have f5 : ¬ 44 + q = 40 + p := by omega
      have f6 : ¬ q = 4 + q := by omega
      have f7 : ¬ 4 + q = 4 + p := by omega
      simp [zr_VC, zs_u, hne, f1, f2, f3, f4, f5, f6, f7, zs_n1, zs_n2, zs_n3, zs_n4, zs_n5]
    · intro q hq hne; simp [zr_VM, zs_u, hne]
    · simp [zs_u, zs_n1, zs_n2, zs_n3, zs_n4, zs_n5, p10, p11, p12, p13, p14, p15, p16, p21, p22, p24, p26, p30, p29, e32, e33, e34, h]
    · intro j hj hlt; have := est p j hp hj (by simpa [zs_u] using hlt); simpa [zs_u, zs_n1, zs_n2, zs_n3, zs_n4, zs_n5] using this
    · intro j hj hlt; have := erow p j hp hj (by simpa [zs_u] using hlt); simpa [zs_u, zs_n1, zs_n2, zs_n3, zs_n4, zs_n5] using this
    · exact ⟨fun _ => by simp [zs_u, q1], fun z => by simp [zs_u] at z, fun _ => by simp [zs_u, q3], fun z => by simp [zs_u] at z, fun z => by simp [zs_u]⟩
  · have ech : fn_X4_change (zs_u τ 10 p 3) (nI c) (τ 20 p) (τ 20 p) 1 = (zs_u τ 10 p 3, 0) := zq_changeF hcl hch
    have ech' : fn_X3_change σ (nI c) (τ 20 p) (τ 20 p) 1 = (σ, 0) := zd_changeF hcl (fun z => hch ⟨hn2.symm.trans z.1, hn3.symm.trans z.2⟩)
    have hτ : (fn_X4_oneStep τ (nI p)).1 = zs_u τ 10 p 3 := by rw [eif, ec, ech, if_pos rfl]
    have hσ : (fn_X3_mark σ p).1 = zs_u σ 10 p 3 := by unfold fn_X3_mark; rw [s19, s20, ech', if_pos rfl]
    rw [hA, hσ, hτ]
    refine zr_E_up (p := p) hE hp ?_ ?_ ?_ ?_ ?_ ?_ ?_ ?_ ?_
    · intro c k hc8 hk64
      have ee := en c k hc8 hk64
      rcases (show c = 0 ∨ c = 1 ∨ c = 2 ∨ c = 3 ∨ c = 4 ∨ c = 5 ∨ c = 6 ∨ c = 7 by omega) with rfl | rfl | rfl | rfl | rfl | rfl | rfl | rfl <;> simp [zs_u, ee, e34, zs_n3, zs_n4, zs_n5]
    · intro b0 hb0; simp [zs_u, eb b0 hb0, zs_n3, zs_n4, zs_n5]
    · simp [zs_u, e32, e33, e34, zs_n3, zs_n4, zs_n5]
    · intro q hq hne; have f1 : ¬ q = 4 + p := by omega
      have f2 : ¬ 4 + q = p := by omega
      have f3 : ¬ 44 + q = 40 + (4 + p) := by omega
      have f4 : ¬ 40 + q = 40 + (4 + p) := by omega
      have f5 : ¬ 44 + q = 40 + p := by omega
      have f6 : ¬ q = 4 + q := by omega
      have f7 : ¬ 4 + q = 4 + p := by omega
      simp [zr_VC, zs_u, hne, f1, f2, f3, f4, f5, f6, f7, zs_n1, zs_n2, zs_n3, zs_n4, zs_n5]
    · intro q hq hne; simp [zr_VM, zs_u, hne]
    · simp [zs_u, zs_n1, zs_n2, zs_n3, zs_n4, zs_n5, p10, p11, p12, p13, p14, p15, p16, p21, p22, p24, p26, p30, p29, e32, e33, e34, h]
    · intro j hj hlt; have := est p j hp hj (by simpa [zs_u] using hlt); simpa [zs_u, zs_n1, zs_n2, zs_n3, zs_n4, zs_n5] using this
    · intro j hj hlt; have := erow p j hp hj (by simpa [zs_u] using hlt); simpa [zs_u, zs_n1, zs_n2, zs_n3, zs_n4, zs_n5] using this
    · exact ⟨fun _ => by simp [zs_u, q1], fun z => by simp [zs_u] at z, fun _ => by simp [zs_u, q3], fun z => by simp [zs_u] at z, fun z => by simp [zs_u] at z ⊢; exact q5 (Or.inr (Or.inr z))⟩
theorem ze_8 {N p : Nat} {σ τ : zs_T} (hE : zr_E σ τ) (hI : zr_I N τ) (hp : p < 4) (h : τ 10 p = 8) : zr_E (fn_X3_advance σ p).1 (fn_X4_oneStep τ (nI p)).1 ∧ ok_X3_advance σ p := by
  have hc : (nI p).toNatClampNeg = p := zq_c (by omega)
  obtain ⟨d, b, hB, -, -⟩ := (hI.2 p hp).B
  obtain ⟨⟨en, eb, ⟨e32, e33, e34⟩, ep, est, erow⟩, e1⟩ := id hE
  obtain ⟨p10, p11, p12, p13, p14, p15, p16, p21, p22, p24, p26, p30, p29⟩ := ep p hp
  obtain ⟨q1, q2, q3, q4, q5⟩ := e1 p hp
  obtain ⟨⟨kk, hkk, ek⟩, ⟨hd4, ed, hb16, eb16, hst⟩, h21, h24, hoe⟩ := id hB
  have hs10 : σ 10 p = 8 := p10.trans h
  have hA : (fn_X3_advance σ p).1 = (fn_X3_link σ p).1 := by unfold fn_X3_advance; rw [if_neg (by rw [hs10]; decide), if_neg (by rw [hs10]; decide), if_neg (by rw [hs10]; decide), if_neg (by rw [hs10]; decide), if_neg (by rw [hs10]; decide), if_neg (by rw [hs10]; decide), if_neg (by rw [hs10]; decide), if_pos hs10]
  have q1 := q1 (by rw [h]; decide)
  have q3 := q3 (by rw [h]; decide)
  obtain ⟨a, ea, haP⟩ := (hI.2 p hp).pr8 h
  obtain ⟨ow, eo, ho64, -, -⟩ := (hI.2 p hp).w8 h
  have hal := haP.lt
  have s18 : σ 18 p = nI a := q1.1.trans ea
  have s19 := q1.2.1
  have s22 : σ 22 p = nI ow := p22.trans eo
  have hn2 := en 2 a (by decide) hal
  have hn3 := en 3 a (by decide) hal
  have eif : fn_X4_oneStep τ (nI p) = ((fn_X4_putIn τ (nI p)).1, 0) := by
    unfold fn_X4_oneStep
    rw [hc, if_neg (by rw [h]; decide), if_neg (by rw [h]; decide), if_neg (by rw [h]; decide), if_neg (by rw [h]; decide), if_neg (by rw [h]; decide), if_neg (by rw [h]; decide), if_neg (by rw [h]; decide), if_pos h]
  have hok : ok_X3_link σ p := by unfold ok_X3_link; rw [s18]; exact ⟨zd_okchange hal (Or.inl rfl), trivial⟩
  refine ⟨?_, by unfold ok_X3_advance; simp [hs10, hok]⟩
  by_cases hch : τ 2 a = τ 19 p ∧ τ 3 a = 0
  · have ech : fn_X4_change τ (nI a) (τ 19 p) (nI ow) 0 = (zs_u (zs_u τ 2 a (nI ow)) 3 a 0, 1) := zq_changeT hal hch.1 hch.2
    have ech' : fn_X3_change σ (nI a) (τ 19 p) (nI ow) 0 = (zs_u (zs_u σ 2 a (nI ow)) 3 a 0, 1) := zd_changeT hal ⟨hn2.trans hch.1, hn3.trans hch.2⟩
    have ec22 : (zs_u (zs_u τ 2 a (nI ow)) 3 a 0) 22 p = nI ow := eo
    have ec22' : (zs_u (zs_u σ 2 a (nI ow)) 3 a 0) 22 p = nI ow := s22
    by_cases hd : τ 30 p = 0
    · have hτ : (fn_X4_oneStep τ (nI p)).1 = zs_u (zs_u (zs_u (zs_u (zs_u (zs_u (zs_u τ 2 a (nI ow)) 3 a 0) 23 p (nI ow)) 22 p (-1)) 10 p 9) 33 0 (τ 33 0 + 1)) 10 p 13 := by
        rw [eif]
        unfold fn_X4_putIn
        rw [hc, ea, eo, ech, if_neg (show ¬ ((1 : Int32) = 0) by decide), if_pos (show (zs_u (zs_u (zs_u (zs_u (zs_u τ 2 a (nI ow)) 3 a 0) 23 p ((zs_u (zs_u τ 2 a (nI ow)) 3 a 0) 22 p)) 22 p (-1)) 10 p 9) 30 p = 0 from hd)]
        show zs_u (zs_u (zs_u (zs_u (zs_u (zs_u (zs_u τ 2 a (nI ow)) 3 a 0) 23 p ((zs_u (zs_u τ 2 a (nI ow)) 3 a 0) 22 p)) 22 p (-1)) 10 p 9) 33 0 (τ 33 0 + 1)) 10 p 13 = _
        rw [ec22]
      have hσ : (fn_X3_link σ p).1 = zs_u (zs_u (zs_u (zs_u (zs_u σ 2 a (nI ow)) 3 a 0) 22 p (-1)) 33 0 (σ 33 0 + 1)) 10 p 13 := by
        unfold fn_X3_link
        have hem : ¬ fr_X1_isEmpty (zs_u (zs_u (zs_u σ 2 a (nI ow)) 3 a 0) 22 p (-1)) p = 0 := by
          unfold fr_X1_isEmpty
          rw [if_pos (show (zs_u (zs_u (zs_u σ 2 a (nI ow)) 3 a 0) 22 p (-1)) 30 p = 0 from p30.trans hd)]; decide
        rw [s18, s19, s22, ech', if_neg (show ¬ ((1 : Int32) = 0) by decide), if_neg hem]
        rfl
      rw [hA, hσ, hτ]
      refine zr_E_up (p := p) hE hp ?_ ?_ ?_ ?_ ?_ ?_ ?_ ?_ ?_
      · intro c k hc8 hk64
        have ee := en c k hc8 hk64
        rcases (show c = 0 ∨ c = 1 ∨ c = 2 ∨ c = 3 ∨ c = 4 ∨ c = 5 ∨ c = 6 ∨ c = 7 by omega) with rfl | rfl | rfl | rfl | rfl | rfl | rfl | rfl <;> simp [zs_u, ee, e34, zs_n3, zs_n4, zs_n5]
      · intro b0 hb0; simp [zs_u, eb b0 hb0, zs_n3, zs_n4, zs_n5]
      · simp [zs_u, e32, e33, e34, zs_n3, zs_n4, zs_n5]
      · intro q hq hne; have f1 : ¬ q = 4 + p := by omega
        have f2 : ¬ 4 + q = p := by omega
        have f3 : ¬ 44 + q = 40 + (4 + p) := by omega
        have f4 : ¬ 40 + q = 40 + (4 + p) := by omega
        have f5 : ¬ 44 + q = 40 + p := by omega
        have f6 : ¬ q = 4 + q := by omega
        have f7 : ¬ 4 + q = 4 + p := by omega
        simp [zr_VC, zs_u, hne, f1, f2, f3, f4, f5, f6, f7, zs_n1, zs_n2, zs_n3, zs_n4, zs_n5]
      · intro q hq hne; simp [zr_VM, zs_u, hne]
      · simp [zs_u, zs_n1, zs_n2, zs_n3, zs_n4, zs_n5, p10, p11, p12, p13, p14, p15, p16, p21, p22, p24, p26, p30, p29, e32, e33, e34, h]
      · intro j hj hlt; have := est p j hp hj (by simpa [zs_u] using hlt); simpa [zs_u, zs_n1, zs_n2, zs_n3, zs_n4, zs_n5] using this
      · intro j hj hlt; have := erow p j hp hj (by simpa [zs_u] using hlt); simpa [zs_u, zs_n1, zs_n2, zs_n3, zs_n4, zs_n5] using this
      · exact ⟨fun _ => by simp [zs_u, q1], fun z => by simp [zs_u] at z, fun _ => by simp [zs_u, q3], fun z => by simp [zs_u] at z, fun z => by simp [zs_u] at z ⊢; exact q5 (Or.inr (Or.inr z))⟩
    · have hτ : (fn_X4_oneStep τ (nI p)).1 = zs_u (zs_u (zs_u (zs_u (zs_u τ 2 a (nI ow)) 3 a 0) 23 p (nI ow)) 22 p (-1)) 10 p 9 := by
        rw [eif]
        unfold fn_X4_putIn
        rw [hc, ea, eo, ech, if_neg (show ¬ ((1 : Int32) = 0) by decide), if_neg (show ¬ (zs_u (zs_u (zs_u (zs_u (zs_u τ 2 a (nI ow)) 3 a 0) 23 p ((zs_u (zs_u τ 2 a (nI ow)) 3 a 0) 22 p)) 22 p (-1)) 10 p 9) 30 p = 0 from hd)]
        show zs_u (zs_u (zs_u (zs_u (zs_u τ 2 a (nI ow)) 3 a 0) 23 p ((zs_u (zs_u τ 2 a (nI ow)) 3 a 0) 22 p)) 22 p (-1)) 10 p 9 = _
        rw [ec22]
      have hσ : (fn_X3_link σ p).1 = zs_u (zs_u (zs_u (zs_u (zs_u σ 2 a (nI ow)) 3 a 0) 22 p (-1)) 23 p (nI ow)) 10 p 9 := by
        unfold fn_X3_link
        have hem : fr_X1_isEmpty (zs_u (zs_u (zs_u σ 2 a (nI ow)) 3 a 0) 22 p (-1)) p = 0 := by
          unfold fr_X1_isEmpty
          rw [if_neg (show ¬ (zs_u (zs_u (zs_u σ 2 a (nI ow)) 3 a 0) 22 p (-1)) 30 p = 0 from fun z => hd (p30.symm.trans z))]
        rw [s18, s19, s22, ech', if_neg (show ¬ ((1 : Int32) = 0) by decide), if_pos hem]
        show zs_u (zs_u (zs_u (zs_u (zs_u σ 2 a (nI ow)) 3 a 0) 22 p (-1)) 23 p ((zs_u (zs_u σ 2 a (nI ow)) 3 a 0) 22 p)) 10 p 9 = _
        rw [ec22']
      rw [hA, hσ, hτ]
      refine zr_E_up (p := p) hE hp ?_ ?_ ?_ ?_ ?_ ?_ ?_ ?_ ?_
      · intro c k hc8 hk64
        have ee := en c k hc8 hk64
        rcases (show c = 0 ∨ c = 1 ∨ c = 2 ∨ c = 3 ∨ c = 4 ∨ c = 5 ∨ c = 6 ∨ c = 7 by omega) with rfl | rfl | rfl | rfl | rfl | rfl | rfl | rfl <;> simp [zs_u, ee, e34, zs_n3, zs_n4, zs_n5]
      · intro b0 hb0; simp [zs_u, eb b0 hb0, zs_n3, zs_n4, zs_n5]
      · simp [zs_u, e32, e33, e34, zs_n3, zs_n4, zs_n5]
      · intro q hq hne; have f1 : ¬ q = 4 + p := by omega
        have f2 : ¬ 4 + q = p := by omega
        have f3 : ¬ 44 + q = 40 + (4 + p) := by omega
        have f4 : ¬ 40 + q = 40 + (4 + p) := by omega
        have f5 : ¬ 44 + q = 40 + p := by omega
        have f6 : ¬ q = 4 + q := by omega
        have f7 : ¬ 4 + q = 4 + p := by omega
        simp [zr_VC, zs_u, hne, f1, f2, f3, f4, f5, f6, f7, zs_n1, zs_n2, zs_n3, zs_n4, zs_n5]
      · intro q hq hne; simp [zr_VM, zs_u, hne]
      · simp [zs_u, zs_n1, zs_n2, zs_n3, zs_n4, zs_n5, p10, p11, p12, p13, p14, p15, p16, p21, p22, p24, p26, p30, p29, e32, e33, e34, h]
      · intro j hj hlt; have := est p j hp hj (by simpa [zs_u] using hlt); simpa [zs_u, zs_n1, zs_n2, zs_n3, zs_n4, zs_n5] using this
      · intro j hj hlt; have := erow p j hp hj (by simpa [zs_u] using hlt); simpa [zs_u, zs_n1, zs_n2, zs_n3, zs_n4, zs_n5] using this
      · exact ⟨fun _ => by simp [zs_u, q1], fun z => by simp [zs_u] at z, fun _ => by simp [zs_u, q3], fun z => by simp [zs_u], fun z => by simp [zs_u] at z ⊢; exact q5 (Or.inr (Or.inr z))⟩
  · have ech : fn_X4_change τ (nI a) (τ 19 p) (nI ow) 0 = (τ, 0) := zq_changeF hal hch
    have ech' : fn_X3_change σ (nI a) (τ 19 p) (nI ow) 0 = (σ, 0) := zd_changeF hal (fun z => hch ⟨hn2.symm.trans z.1, hn3.symm.trans z.2⟩)
    have hτ : (fn_X4_oneStep τ (nI p)).1 = zs_u τ 10 p 3 := by
      rw [eif]
      unfold fn_X4_putIn
      rw [hc, ea, eo, ech, if_pos rfl]
    have hσ : (fn_X3_link σ p).1 = zs_u σ 10 p 3 := by unfold fn_X3_link; rw [s18, s19, s22, ech', if_pos rfl]
    rw [hA, hσ, hτ]
    refine zr_E_up (p := p) hE hp ?_ ?_ ?_ ?_ ?_ ?_ ?_ ?_ ?_
    · intro c k hc8 hk64
      have ee := en c k hc8 hk64
      rcases (show c = 0 ∨ c = 1 ∨ c = 2 ∨ c = 3 ∨ c = 4 ∨ c = 5 ∨ c = 6 ∨ c = 7 by omega) with rfl | rfl | rfl | rfl | rfl | rfl | rfl | rfl <;> simp [zs_u, ee, e34, zs_n3, zs_n4, zs_n5]
    · intro b0 hb0; simp [zs_u, eb b0 hb0, zs_n3, zs_n4, zs_n5]
    · simp [zs_u, e32, e33, e34, zs_n3, zs_n4, zs_n5]
    · intro q hq hne; have f1 : ¬ q = 4 + p := by omega
      have f2 : ¬ 4 + q = p := by omega
      have f3 : ¬ 44 + q = 40 + (4 + p) := by omega
      have f4 : ¬ 40 + q = 40 + (4 + p) := by omega
      have f5 : ¬ 44 + q = 40 + p := by omega
      have f6 : ¬ q = 4 + q := by omega
      have f7 : ¬ 4 + q = 4 + p := by omega
      simp [zr_VC, zs_u, hne, f1, f2, f3, f4, f5, f6, f7, zs_n1, zs_n2, zs_n3, zs_n4, zs_n5]
    · intro q hq hne; simp [zr_VM, zs_u, hne]
    · simp [zs_u, zs_n1, zs_n2, zs_n3, zs_n4, zs_n5, p10, p11, p12, p13, p14, p15, p16, p21, p22, p24, p26, p30, p29, e32, e33, e34, h]
    · intro j hj hlt; have := est p j hp hj (by simpa [zs_u] using hlt); simpa [zs_u, zs_n1, zs_n2, zs_n3, zs_n4, zs_n5] using this
    · intro j hj hlt; have := erow p j hp hj (by simpa [zs_u] using hlt); simpa [zs_u, zs_n1, zs_n2, zs_n3, zs_n4, zs_n5] using this
    · exact ⟨fun _ => by simp [zs_u, q1], fun z => by simp [zs_u] at z, fun _ => by simp [zs_u, q3], fun z => by simp [zs_u] at z, fun z => by simp [zs_u] at z ⊢; exact q5 (Or.inr (Or.inr z))⟩
