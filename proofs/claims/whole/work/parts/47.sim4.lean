theorem ze_13 {N p : Nat} {σ τ : zs_T} (hE : zr_E σ τ) (hI : zr_I N τ) (hp : p < 4) (h : τ 10 p = 13) : zr_E (fn_X3_advance σ p).1 (fn_X4_oneStep τ (nI p)).1 ∧ ok_X3_advance σ p := by
  have hc : (nI p).toNatClampNeg = p := zq_c (by omega)
  obtain ⟨d, b, hB, -, -⟩ := (hI.2 p hp).B
  obtain ⟨⟨en, eb, ⟨e32, e33, e34⟩, ep, est, erow⟩, e1⟩ := id hE
  obtain ⟨p10, p11, p12, p13, p14, p15, p16, p21, p22, p24, p26, p30, p29⟩ := ep p hp
  obtain ⟨q1, q2, q3, q4, q5⟩ := e1 p hp
  obtain ⟨⟨kk, hkk, ek⟩, ⟨hd4, ed, hb16, eb16, hst⟩, h21, h24, hoe⟩ := id hB
  have hs10 : σ 10 p = 13 := p10.trans h
  have hA : (fn_X3_advance σ p).1 = (fn_X3_grow σ p).1 := by unfold fn_X3_advance; rw [if_neg (by rw [hs10]; decide), if_neg (by rw [hs10]; decide), if_neg (by rw [hs10]; decide), if_neg (by rw [hs10]; decide), if_neg (by rw [hs10]; decide), if_neg (by rw [hs10]; decide), if_neg (by rw [hs10]; decide), if_neg (by rw [hs10]; decide), if_neg (by rw [hs10]; decide), if_neg (by rw [hs10]; decide), if_neg (by rw [hs10]; decide), if_neg (by rw [hs10]; decide), if_pos hs10]
  have q1 := q1 (by rw [h]; decide)
  have q3 := q3 (by rw [h]; decide)
  have hown := (hI.1.2.2.2.2.2.2.2.2.1 p hp).imp (fun n hn => hn.1)
  have eif : (fn_X4_oneStep τ (nI p)).1 = (if 2 * (τ 32 0) < τ 33 0 then (if τ 32 0 < 16 then ((fn_X4_ends (zs_u τ 32 0 ((τ 32 0) * 2)) (nI p) 1).1, 0) else ((fn_X4_ends τ (nI p) 1).1, 0)) else ((fn_X4_ends τ (nI p) 1).1, 0) : zs_O).1 := by
    unfold fn_X4_oneStep
    rw [hc, if_neg (by rw [h]; decide), if_neg (by rw [h]; decide), if_neg (by rw [h]; decide), if_neg (by rw [h]; decide), if_neg (by rw [h]; decide), if_neg (by rw [h]; decide), if_neg (by rw [h]; decide), if_neg (by rw [h]; decide), if_neg (by rw [h]; decide), if_neg (by rw [h]; decide), if_neg (by rw [h]; decide), if_neg (by rw [h]; decide), if_pos h]
  refine ⟨?_, by unfold ok_X3_advance; simp [hs10]⟩
  rw [hA, eif]
  unfold fn_X3_grow
  rw [e32, e33]
  by_cases h1 : 2 * (τ 32 0) < τ 33 0
  · rw [if_pos h1, if_pos h1]
    by_cases h2 : τ 32 0 < 16
    · rw [if_pos h2, if_pos h2, Int32.mul_comm (τ 32 0) 2]
      refine ze_end (σ := zs_u σ 32 0 (2 * τ 32 0)) (τ := zs_u τ 32 0 (2 * τ 32 0)) (d := d) ?_ hp hd4 ed hown 1
      refine zr_E_up (p := p) hE hp ?_ ?_ ?_ ?_ ?_ ?_ ?_ ?_ ?_
      · intro c k hc8 hk64
        have ee := en c k hc8 hk64
        rcases (show c = 0 ∨ c = 1 ∨ c = 2 ∨ c = 3 ∨ c = 4 ∨ c = 5 ∨ c = 6 ∨ c = 7 by omega) with rfl | rfl | rfl | rfl | rfl | rfl | rfl | rfl <;> simp [zs_u, ee, e34, zs_n3, zs_n4, zs_n5]
      · intro b0 hb0; simp [zs_u, eb b0 hb0, zs_n3, zs_n4, zs_n5]
      · simp [zs_u, e32, e33, e34, zs_n3, zs_n4, zs_n5]
      · intro q hq hne; have f1 : ¬ q = 4 + p := by omega
        have f2 : ¬ 4 + q = p := by omega
        have f3 : ¬ 44 + q = 40 + (4 + p) := by omega
        have f4 : ¬ 40 + q = 40 + (4 + p) := by omega
        have f5 : ¬ 44 + q = 40 + p := by omega
        have f6 : ¬ q = 4 + q := by omega
        have f7 : ¬ 4 + q = 4 + p := by omega
        simp [zr_VC, zs_u, hne, f1, f2, f3, f4, f5, f6, f7, zs_n1, zs_n2, zs_n3, zs_n4, zs_n5]
      · intro q hq hne; simp [zr_VM, zs_u, hne]
      · simp [zs_u, zs_n1, zs_n2, zs_n3, zs_n4, zs_n5, p10, p11, p12, p13, p14, p15, p16, p21, p22, p24, p26, p30, p29, e32, e33, e34, h]
      · intro j hj hlt; have := est p j hp hj (by simpa [zs_u] using hlt); simpa [zs_u, zs_n1, zs_n2, zs_n3, zs_n4, zs_n5] using this
      · intro j hj hlt; have := erow p j hp hj (by simpa [zs_u] using hlt); simpa [zs_u, zs_n1, zs_n2, zs_n3, zs_n4, zs_n5] using this
      · exact ⟨fun _ => q1, fun z => by simp [zs_u, h] at z, fun _ => q3, fun z => by simp [zs_u, h] at z, fun z => by simp [zs_u, h] at z ⊢; exact q5 (Or.inr (Or.inr z))⟩
    · rw [if_neg h2, if_neg h2]
      exact ze_end hE hp hd4 ed hown 1
  · rw [if_neg h1, if_neg h1]
    exact ze_end hE hp hd4 ed hown 1
theorem ze_9 {N p : Nat} {σ τ : zs_T} (hE : zr_E σ τ) (hI : zr_I N τ) (hp : p < 4) (h : τ 10 p = 9) : zr_E (fn_X3_advance σ p).1 (fn_X4_oneStep τ (nI p)).1 ∧ ok_X3_advance σ p := by
  have hc : (nI p).toNatClampNeg = p := zq_c (by omega)
  obtain ⟨d, b, hB, -, -⟩ := (hI.2 p hp).B
  obtain ⟨⟨en, eb, ⟨e32, e33, e34⟩, ep, est, erow⟩, e1⟩ := id hE
  obtain ⟨p10, p11, p12, p13, p14, p15, p16, p21, p22, p24, p26, p30, p29⟩ := ep p hp
  obtain ⟨q1, q2, q3, q4, q5⟩ := e1 p hp
  obtain ⟨⟨kk, hkk, ek⟩, ⟨hd4, ed, hb16, eb16, hst⟩, h21, h24, hoe⟩ := id hB
  have hs10 : σ 10 p = 9 := p10.trans h
  have hA : (fn_X3_advance σ p).1 = (fn_X3_setBucket σ p).1 := by unfold fn_X3_advance; rw [if_neg (by rw [hs10]; decide), if_neg (by rw [hs10]; decide), if_neg (by rw [hs10]; decide), if_neg (by rw [hs10]; decide), if_neg (by rw [hs10]; decide), if_neg (by rw [hs10]; decide), if_neg (by rw [hs10]; decide), if_neg (by rw [hs10]; decide), if_pos hs10]
  have q1 := q1 (by rw [h]; decide)
  have q3 := q3 (by rw [h]; decide)
  have q4 := q4 h
  obtain ⟨⟨gv, eg, hgL, hge⟩, hd0⟩ := (hI.2 p hp).g9 h
  have hd1 : 1 ≤ d := by
    rcases Nat.eq_zero_or_pos d with z | z
    · rw [ed, z] at hd0; exact absurd nI_0 hd0
    · exact z
  have ed1 : nI d - 1 = nI (d - 1) := by rw [show (1 : Int32) = nI 1 from rfl, pk_sub (by omega)]
  obtain ⟨bb, hbb, ebb⟩ := hst (d - 1) (by omega)
  have e16 : 16 * nI p + nI (d - 1) = nI (16 * p + (d - 1)) := by rw [show (16 : Int32) = nI 16 from rfl, pk_mul, nI_add]
  have hc16 : (nI (16 * p + (d - 1))).toNatClampNeg = 16 * p + (d - 1) := zq_c (by omega)
  have hcb : (nI bb).toNatClampNeg = bb := zq_c (by omega)
  have s30 : σ 30 p = nI d := p30.trans ed
  have s23 : σ 23 p = nI gv := q4.trans eg
  have hbk := hI.1.2.2.2.2.2.2.1 bb hbb
  have sit : σ (40 + p) (d - 1) = nI bb := (est p (d - 1) hp (by omega) (by rw [ed, nI_ltI (by omega) (by omega)]; omega)).trans ebb
  have n40 : ∀ c k v (s : zs_T), c < 40 → zs_u s c k v (40 + p) (d - 1) = s (40 + p) (d - 1) := fun c k v s z => by rw [zs_uc (by omega)]
  -- both sides, once the own node is free
  obtain ⟨F, s1, hF, hs1, hcase⟩ : ∃ F s1 : zs_T, (fn_X3_freeOwn σ p).1 = F ∧ (fn_X4_oneStep τ (nI p) = if zs_u s1 30 p (s1 30 p - 1) 31 ((zs_u s1 30 p (s1 30 p - 1) 27 ((16 * nI p + zs_u s1 30 p (s1 30 p - 1) 30 p).toNatClampNeg)).toNatClampNeg) < 0 then (zs_u (zs_u (zs_u (zs_u s1 30 p (s1 30 p - 1)) 31 ((zs_u s1 30 p (s1 30 p - 1) 27 ((16 * nI p + zs_u s1 30 p (s1 30 p - 1) 30 p).toNatClampNeg)).toNatClampNeg) (s1 23 p)) 17 p (s1 23 p)) 10 p 3, 0) else (zs_u (zs_u (zs_u s1 30 p (s1 30 p - 1)) 17 p (s1 23 p)) 10 p 3, 0)) ∧ ((F = zs_u σ 22 p (-1) ∧ s1 = zs_u τ 22 p (-1)) ∨ ∃ n, n < 64 ∧ F = zs_u (zs_u σ 0 n 0) 22 p (-1) ∧ s1 = zs_u (zs_u τ 0 n 0) 22 p (-1)) := by
    rcases hI.1.2.2.2.2.2.2.2.2.1 p hp with ho | ⟨n, ho, hn, hn1⟩
    · refine ⟨_, zs_u τ 22 p (-1), zd_free0 (p22.trans ho), ?_, Or.inl ⟨rfl, rfl⟩⟩
      unfold fn_X4_oneStep
      rw [hc, if_neg (by rw [h]; decide), if_neg (by rw [h]; decide), if_neg (by rw [h]; decide), if_neg (by rw [h]; decide), if_neg (by rw [h]; decide), if_neg (by rw [h]; decide), if_neg (by rw [h]; decide), if_neg (by rw [h]; decide), if_pos h, if_pos (show τ 22 p < 0 by rw [ho]; decide)]
      rfl
    · refine ⟨_, zs_u (zs_u τ 0 n 0) 22 p (-1), zd_free1 hn (p22.trans ho), ?_, Or.inr ⟨n, hn, rfl, rfl⟩⟩
      unfold fn_X4_oneStep
      rw [hc, if_neg (by rw [h]; decide), if_neg (by rw [h]; decide), if_neg (by rw [h]; decide), if_neg (by rw [h]; decide), if_neg (by rw [h]; decide), if_neg (by rw [h]; decide), if_neg (by rw [h]; decide), if_neg (by rw [h]; decide), if_pos h, if_neg (show ¬ τ 22 p < 0 by rw [ho]; exact zq_ge (by omega)), ho, zq_c (by omega)]
      rfl
  have F30 : F 30 p = nI d := by rcases hcase with ⟨z, -⟩ | ⟨n, -, z, -⟩ <;> rw [z] <;> exact s30
  have F23 : F 23 p = nI gv := by rcases hcase with ⟨z, -⟩ | ⟨n, -, z, -⟩ <;> rw [z] <;> exact s23
  have F31 : F 31 bb = τ 31 bb := by rcases hcase with ⟨z, -⟩ | ⟨n, -, z, -⟩ <;> rw [z] <;> exact eb bb hbb
  have Fit : F (40 + p) (d - 1) = nI bb := by rcases hcase with ⟨z, -⟩ | ⟨n, -, z, -⟩ <;> rw [z] <;> simp [zs_u, zs_n1, sit]
  have m30 : s1 30 p = nI d := by rcases hcase with ⟨-, z⟩ | ⟨n, -, -, z⟩ <;> rw [z] <;> exact ed
  have m23 : s1 23 p = nI gv := by rcases hcase with ⟨-, z⟩ | ⟨n, -, -, z⟩ <;> rw [z] <;> exact eg
  have m31 : s1 31 bb = τ 31 bb := by rcases hcase with ⟨-, z⟩ | ⟨n, -, -, z⟩ <;> rw [z] <;> rfl
  have m27 : s1 27 (16 * p + (d - 1)) = nI bb := by rcases hcase with ⟨-, z⟩ | ⟨n, -, -, z⟩ <;> rw [z] <;> exact ebb
  have eA : zs_u s1 30 p (s1 30 p - 1) 27 ((16 * nI p + zs_u s1 30 p (s1 30 p - 1) 30 p).toNatClampNeg) = nI bb := by
    have : zs_u s1 30 p (s1 30 p - 1) 30 p = nI (d - 1) := by simp [zs_u]; rw [m30, ed1]
    rw [this, e16, hc16]
    exact m27
  have eB : zs_u s1 30 p (s1 30 p - 1) 31 bb = τ 31 bb := m31
  rw [eA, hcb, eB, m30, ed1, m23] at hs1
  have hok : ok_X3_setBucket σ p := by
    unfold ok_X3_setBucket
    rw [hF]
    exact ⟨zd_oktop (by rw [zd_len0 hp]; exact hd4) hd1 F30, trivial⟩
  refine ⟨?_, by unfold ok_X3_advance; simp [hs10, hok]⟩
  have etop : fr_X1_top F p = nI bb := (zd_top (by omega) hd1 F30).trans Fit
  by_cases hneg : τ 31 bb = -1
  · have hτ : (fn_X4_oneStep τ (nI p)).1 = zs_u (zs_u (zs_u (zs_u s1 30 p (nI (d - 1))) 31 bb (nI gv)) 17 p (nI gv)) 10 p 3 := by rw [hs1, if_pos (show τ 31 bb < 0 by rw [hneg]; decide)]
    have hσ : (fn_X3_setBucket σ p).1 = zs_u (zs_u (zs_u (zs_u F 31 bb (nI gv)) 30 p (nI (d - 1))) 17 p (nI gv)) 10 p 3 := by
      unfold fn_X3_setBucket
      rw [hF, etop, zd_bk hbb, if_neg (by decide), hcb, if_pos (F31.trans hneg), F23]
      show zs_u (zs_u (fn_X1_dropTop (zs_u F 31 bb (nI gv)) p).1 17 p ((fn_X1_dropTop (zs_u F 31 bb (nI gv)) p).1 23 p)) 10 p 3 = _
      rw [zd_drop (s := zs_u F 31 bb (nI gv)) (d := d) (by omega) hd1 F30]
      have : zs_u (zs_u F 31 bb (nI gv)) 30 p (nI (d - 1)) 23 p = nI gv := F23
      rw [this]
    rw [hA, hσ, hτ]
    rcases hcase with ⟨z1, z2⟩ | ⟨n, hn, z1, z2⟩
    · rw [z1, z2]
      refine zr_E_up (p := p) hE hp ?_ ?_ ?_ ?_ ?_ ?_ ?_ ?_ ?_
      · intro c k hc8 hk64
        have ee := en c k hc8 hk64
        rcases (show c = 0 ∨ c = 1 ∨ c = 2 ∨ c = 3 ∨ c = 4 ∨ c = 5 ∨ c = 6 ∨ c = 7 by omega) with rfl | rfl | rfl | rfl | rfl | rfl | rfl | rfl <;> simp [zs_u, ee, e34, zs_n3, zs_n4, zs_n5]
      · intro b0 hb0; simp [zs_u, eb b0 hb0, zs_n3, zs_n4, zs_n5]
      · simp [zs_u, e32, e33, e34, zs_n3, zs_n4, zs_n5]
      · intro q hq hne; have f1 : ¬ q = 4 + p := by omega
        have f2 : ¬ 4 + q = p := by omega
        have f3 : ¬ 44 + q = 40 + (4 + p) := by omega
        have f4 : ¬ 40 + q = 40 + (4 + p) := by omega
        have f5 : ¬ 44 + q = 40 + p := by omega
        have f6 : ¬ q = 4 + q := by omega
        have f7 : ¬ 4 + q = 4 + p := by omega
        simp [zr_VC, zs_u, hne, f1, f2, f3, f4, f5, f6, f7, zs_n1, zs_n2, zs_n3, zs_n4, zs_n5]
      · intro q hq hne; simp [zr_VM, zs_u, hne]
      · simp [zs_u, zs_n1, zs_n2, zs_n3, zs_n4, zs_n5, p10, p11, p12, p13, p14, p15, p16, p21, p22, p24, p26, p30, p29, e32, e33, e34, h]
      · intro j hj hlt
        have hlt : nI j < nI (d - 1) := by simpa [zs_u] using hlt
        have hlt := (nI_ltI (by omega) (by omega)).mp hlt
        have := est p j hp hj (by rw [ed, nI_ltI (by omega) (by omega)]; omega)
        simpa [zs_u, zs_n1, zs_n2] using this
      · intro j hj hlt; have := erow p j hp hj (by simpa [zs_u] using hlt); simpa [zs_u, zs_n1, zs_n2, zs_n3, zs_n4, zs_n5] using this
      · exact ⟨fun _ => by simp [zs_u, q1], fun z => by simp [zs_u] at z, fun _ => by simp [zs_u], fun z => by simp [zs_u] at z, fun z => by simp [zs_u] at z ⊢; exact q5 (Or.inr (Or.inr z))⟩
    · rw [z1, z2]
      refine zr_E_up (p := p) hE hp ?_ ?_ ?_ ?_ ?_ ?_ ?_ ?_ ?_
      · intro c k hc8 hk64
        have ee := en c k hc8 hk64
        rcases (show c = 0 ∨ c = 1 ∨ c = 2 ∨ c = 3 ∨ c = 4 ∨ c = 5 ∨ c = 6 ∨ c = 7 by omega) with rfl | rfl | rfl | rfl | rfl | rfl | rfl | rfl <;> simp [zs_u, ee, e34, zs_n3, zs_n4, zs_n5]
      · intro b0 hb0; simp [zs_u, eb b0 hb0, zs_n3, zs_n4, zs_n5]
      · simp [zs_u, e32, e33, e34, zs_n3, zs_n4, zs_n5]
      · intro q hq hne; have f1 : ¬ q = 4 + p := by omega
        have f2 : ¬ 4 + q = p := by omega
        have f3 : ¬ 44 + q = 40 + (4 + p) := by omega
        have f4 : ¬ 40 + q = 40 + (4 + p) := by omega
        have f5 : ¬ 44 + q = 40 + p := by omega
        have f6 : ¬ q = 4 + q := by omega
        have f7 : ¬ 4 + q = 4 + p := by omega
        simp [zr_VC, zs_u, hne, f1, f2, f3, f4, f5, f6, f7, zs_n1, zs_n2, zs_n3, zs_n4, zs_n5]
      · intro q hq hne; simp [zr_VM, zs_u, hne]
      · simp [zs_u, zs_n1, zs_n2, zs_n3, zs_n4, zs_n5, p10, p11, p12, p13, p14, p15, p16, p21, p22, p24, p26, p30, p29, e32, e33, e34, h]
      · intro j hj hlt
        have hlt : nI j < nI (d - 1) := by simpa [zs_u] using hlt
        have hlt := (nI_ltI (by omega) (by omega)).mp hlt
        have := est p j hp hj (by rw [ed, nI_ltI (by omega) (by omega)]; omega)
        simpa [zs_u, zs_n1, zs_n2] using this
      · intro j hj hlt; have := erow p j hp hj (by simpa [zs_u] using hlt); simpa [zs_u, zs_n1, zs_n2, zs_n3, zs_n4, zs_n5] using this
      · exact ⟨fun _ => by simp [zs_u, q1], fun z => by simp [zs_u] at z, fun _ => by simp [zs_u], fun z => by simp [zs_u] at z, fun z => by simp [zs_u] at z ⊢; exact q5 (Or.inr (Or.inr z))⟩
  · have hnn : ¬ τ 31 bb < 0 := by
      rcases hbk with z | ⟨n, z, z2⟩
      · exact absurd z hneg
      · rw [z]; exact zq_ge (by have := z2.1.1; omega)
    have hτ : (fn_X4_oneStep τ (nI p)).1 = zs_u (zs_u (zs_u s1 30 p (nI (d - 1))) 17 p (nI gv)) 10 p 3 := by rw [hs1, if_neg hnn]
    have hσ : (fn_X3_setBucket σ p).1 = zs_u (zs_u (zs_u F 30 p (nI (d - 1))) 17 p (nI gv)) 10 p 3 := by
      unfold fn_X3_setBucket
      rw [hF, etop, zd_bk hbb, if_neg (by decide), hcb, if_neg (fun z => hneg (F31.symm.trans z))]
      show zs_u (zs_u (fn_X1_dropTop F p).1 17 p ((fn_X1_dropTop F p).1 23 p)) 10 p 3 = _
      rw [zd_drop (s := F) (d := d) (by omega) hd1 F30]
      have : zs_u F 30 p (nI (d - 1)) 23 p = nI gv := F23
      rw [this]
    rw [hA, hσ, hτ]
    rcases hcase with ⟨z1, z2⟩ | ⟨n, hn, z1, z2⟩
    · rw [z1, z2]
      refine zr_E_up (p := p) hE hp ?_ ?_ ?_ ?_ ?_ ?_ ?_ ?_ ?_
      · intro c k hc8 hk64
        have ee := en c k hc8 hk64
        rcases (show c = 0 ∨ c = 1 ∨ c = 2 ∨ c = 3 ∨ c = 4 ∨ c = 5 ∨ c = 6 ∨ c = 7 by omega) with rfl | rfl | rfl | rfl | rfl | rfl | rfl | rfl <;> simp [zs_u, ee, e34, zs_n3, zs_n4, zs_n5]
      · intro b0 hb0; simp [zs_u, eb b0 hb0, zs_n3, zs_n4, zs_n5]
      · simp [zs_u, e32, e33, e34, zs_n3, zs_n4, zs_n5]
      · intro q hq hne; have f1 : ¬ q = 4 + p := by omega
        have f2 : ¬ 4 + q = p := by omega
        have f3 : ¬ 44 + q = 40 + (4 + p) := by omega
        have f4 : ¬ 40 + q = 40 + (4 + p) := by omega
        have f5 : ¬ 44 + q = 40 + p := by omega
        have f6 : ¬ q = 4 + q := by omega
        have f7 : ¬ 4 + q = 4 + p := by omega
        simp [zr_VC, zs_u, hne, f1, f2, f3, f4, f5, f6, f7, zs_n1, zs_n2, zs_n3, zs_n4, zs_n5]
      · intro q hq hne; simp [zr_VM, zs_u, hne]
      · simp [zs_u, zs_n1, zs_n2, zs_n3, zs_n4, zs_n5, p10, p11, p12, p13, p14, p15, p16, p21, p22, p24, p26, p30, p29, e32, e33, e34, h]
      · intro j hj hlt
        have hlt : nI j < nI (d - 1) := by simpa [zs_u] using hlt
        have hlt := (nI_ltI (by omega) (by omega)).mp hlt
        have := est p j hp hj (by rw [ed, nI_ltI (by omega) (by omega)]; omega)
        simpa [zs_u, zs_n1, zs_n2] using this
      · intro j hj hlt; have := erow p j hp hj (by simpa [zs_u] using hlt); simpa [zs_u, zs_n1, zs_n2, zs_n3, zs_n4, zs_n5] using this
      · exact ⟨fun _ => by simp [zs_u, q1], fun z => by simp [zs_u] at z, fun _ => by simp [zs_u], fun z => by simp [zs_u] at z, fun z => by simp [zs_u] at z ⊢; exact q5 (Or.inr (Or.inr z))⟩
    · rw [z1, z2]
      refine zr_E_up (p := p) hE hp ?_ ?_ ?_ ?_ ?_ ?_ ?_ ?_ ?_
      · intro c k hc8 hk64
        have ee := en c k hc8 hk64
        rcases (show c = 0 ∨ c = 1 ∨ c = 2 ∨ c = 3 ∨ c = 4 ∨ c = 5 ∨ c = 6 ∨ c = 7 by omega) with rfl | rfl | rfl | rfl | rfl | rfl | rfl | rfl <;> simp [zs_u, ee, e34, zs_n3, zs_n4, zs_n5]
      · intro b0 hb0; simp [zs_u, eb b0 hb0, zs_n3, zs_n4, zs_n5]
      · simp [zs_u, e32, e33, e34, zs_n3, zs_n4, zs_n5]
      · intro q hq hne; have f1 : ¬ q = 4 + p := by omega
        have f2 : ¬ 4 + q = p := by omega
        have f3 : ¬ 44 + q = 40 + (4 + p) := by omega
        have f4 : ¬ 40 + q = 40 + (4 + p) := by omega
        have f5 : ¬ 44 + q = 40 + p := by omega
        have f6 : ¬ q = 4 + q := by omega
        have f7 : ¬ 4 + q = 4 + p := by omega
        simp [zr_VC, zs_u, hne, f1, f2, f3, f4, f5, f6, f7, zs_n1, zs_n2, zs_n3, zs_n4, zs_n5]
      · intro q hq hne; simp [zr_VM, zs_u, hne]
      · simp [zs_u, zs_n1, zs_n2, zs_n3, zs_n4, zs_n5, p10, p11, p12, p13, p14, p15, p16, p21, p22, p24, p26, p30, p29, e32, e33, e34, h]
      · intro j hj hlt
        have hlt : nI j < nI (d - 1) := by simpa [zs_u] using hlt
        have hlt := (nI_ltI (by omega) (by omega)).mp hlt
        have := est p j hp hj (by rw [ed, nI_ltI (by omega) (by omega)]; omega)
        simpa [zs_u, zs_n1, zs_n2] using this
      · intro j hj hlt; have := erow p j hp hj (by simpa [zs_u] using hlt); simpa [zs_u, zs_n1, zs_n2, zs_n3, zs_n4, zs_n5] using this
      · exact ⟨fun _ => by simp [zs_u, q1], fun z => by simp [zs_u] at z, fun _ => by simp [zs_u], fun z => by simp [zs_u] at z, fun z => by simp [zs_u] at z ⊢; exact q5 (Or.inr (Or.inr z))⟩
theorem zd_take {σ : zs_T} {p : Nat} (x2 : Int32) : ∀ f i, i ≤ 64 → 64 < f + i → (∃ n, i ≤ n ∧ n < 64 ∧ σ 0 n = 0 ∧ (∀ m, i ≤ m → m < n → σ 0 m ≠ 0) ∧ fn_X3_takeFreeNode_L10 f σ p x2 (nI i) = ((fn_X0_appear σ n (fr_X3_wantedOrder σ p) (if x2 = 0 then -1 else σ 12 p) (if x2 = 0 then 0 else σ 13 p) (σ 34 0)).1, nI n)) ∨ ((∀ m, i ≤ m → m < 64 → σ 0 m ≠ 0) ∧ fn_X3_takeFreeNode_L10 f σ p x2 (nI i) = (σ, -1)) := by
  intro f
  induction f with
  | zero => intro i h1 h2; omega
  | succ f ih =>
    intro i h1 h2
    have hci : (nI i).toNatClampNeg = i := zq_c (by omega)
    by_cases hi : i < 64
    · have hlt : nI i < 64 := by rw [show (64 : Int32) = nI 64 from rfl, nI_ltI (by omega) (by omega)]; exact hi
      by_cases h0 : σ 0 i = 0
      · refine Or.inl ⟨i, by omega, hi, h0, fun m a b => by omega, ?_⟩
        rw [fn_X3_takeFreeNode_L10, hci, if_pos hlt, if_pos h0]
        by_cases hx : x2 = 0
        · rw [if_pos hx, if_pos hx, if_pos hx, if_pos hx]
        · rw [if_neg hx, if_neg hx, if_neg hx, if_neg hx]
      · have e1 : fn_X3_takeFreeNode_L10 (f + 1) σ p x2 (nI i) = fn_X3_takeFreeNode_L10 f σ p x2 (nI (i + 1)) := by
          rw [fn_X3_takeFreeNode_L10, hci, if_pos hlt, if_neg h0, nI_1]
        rw [e1]
        rcases ih (i + 1) (by omega) (by omega) with ⟨n, a1, a2, a3, a4, a5⟩ | ⟨a1, a2⟩
        · refine Or.inl ⟨n, by omega, a2, a3, fun m b1 b2 => ?_, a5⟩
          by_cases hm : m = i
          · subst hm; exact h0
          · exact a4 m (by omega) b2
        · refine Or.inr ⟨fun m b1 b2 => ?_, a2⟩
          by_cases hm : m = i
          · subst hm; exact h0
          · exact a1 m (by omega) b2
    · have : i = 64 := by omega
      subst this
      refine Or.inr ⟨fun m a b => by omega, ?_⟩
      rw [fn_X3_takeFreeNode_L10, if_neg (by decide)]
theorem zd_oktake {σ : zs_T} {p : Nat} (x2 : Int32) (hw : ok_X3_wantedOrder σ p) : ∀ f i, i ≤ 64 → 64 < f + i → ok_X3_takeFreeNode_L10 f σ p x2 (nI i) := by
  intro f
  induction f with
  | zero => intro i h1 h2; omega
  | succ f ih =>
    intro i h1 h2
    have hci : (nI i).toNatClampNeg = i := zq_c (by omega)
    have oka : ∀ a b c d e, ok_X0_appear σ a b c d e := fun a b c d e => ⟨⟨Or.inl rfl, trivial⟩, trivial⟩
    by_cases hi : i < 64
    · have hvi : vp_in (nI i) 64 := zq_in hi (by decide)
      have hih := ih (i + 1) (by omega) (by omega)
      rw [ok_X3_takeFreeNode_L10]
      simp [hci, hvi, hw, oka, nI_1, hih]
    · have : i = 64 := by omega
      subst this
      rw [ok_X3_takeFreeNode_L10]
      exact ⟨fun z => absurd z (by decide), fun _ => trivial⟩
theorem ze_7 {N p : Nat} {σ τ : zs_T} (hE : zr_E σ τ) (hI : zr_I N τ) (hp : p < 4) (h : τ 10 p = 7) : zr_E (fn_X3_advance σ p).1 (fn_X4_oneStep τ (nI p)).1 ∧ ok_X3_advance σ p := by
  have hc : (nI p).toNatClampNeg = p := zq_c (by omega)
  obtain ⟨d, b, hB, -, -⟩ := (hI.2 p hp).B
  obtain ⟨⟨en, eb, ⟨e32, e33, e34⟩, ep, est, erow⟩, e1⟩ := id hE
  obtain ⟨p10, p11, p12, p13, p14, p15, p16, p21, p22, p24, p26, p30, p29⟩ := ep p hp
  obtain ⟨q1, q2, q3, q4, q5⟩ := e1 p hp
  obtain ⟨⟨kk, hkk, ek⟩, ⟨hd4, ed, hb16, eb16, hst⟩, h21, h24, hoe⟩ := id hB
  have hs10 : σ 10 p = 7 := p10.trans h
  have hA : (fn_X3_advance σ p).1 = (fn_X3_prepare σ p).1 := by unfold fn_X3_advance; rw [if_neg (by rw [hs10]; decide), if_neg (by rw [hs10]; decide), if_neg (by rw [hs10]; decide), if_neg (by rw [hs10]; decide), if_neg (by rw [hs10]; decide), if_neg (by rw [hs10]; decide), if_pos hs10]
  have q1 := q1 (by rw [h]; decide)
  have q3 := q3 (by rw [h]; decide)
  have hown := (hI.1.2.2.2.2.2.2.2.2.1 p hp)
  obtain ⟨hw, hokw⟩ := zd_w hE.1 hp hB
  have eif : (fn_X4_oneStep τ (nI p)).1 = (fn_X4_prepare τ (nI p)).1 := by
    unfold fn_X4_oneStep
    rw [hc, if_neg (by rw [h]; decide), if_neg (by rw [h]; decide), if_neg (by rw [h]; decide), if_neg (by rw [h]; decide), if_neg (by rw [h]; decide), if_neg (by rw [h]; decide), if_pos h]
  rw [hA, eif]
  rcases id hown with ho | ⟨ow, ho, ho64, ho1⟩
  · have s22 : σ 22 p = -1 := p22.trans ho
    have epr : (fn_X4_prepare τ (nI p)).1 = (fn_X4_prepare_L13 65 τ (nI p) (nI 0)).1 := by
      unfold fn_X4_prepare
      rw [hc, if_pos (show τ 22 p < 0 by rw [ho]; decide)]
      rfl
    have hokt : ok_X3_takeFreeNode σ p := zd_oktake (fr_X1_isEmpty σ p) hokw 65 0 (by omega) (by omega)
    have hok : ok_X3_prepare σ p := by
      unfold ok_X3_prepare
      have okp : ∀ s k v, ok_X0_pointTo s k v 0 := fun s k v => ⟨Or.inl rfl, trivial⟩
      exact ⟨fun _ => ⟨hokt, fun _ => trivial, fun _ => ⟨okp _ _ _, trivial⟩⟩, fun z => absurd s22 z⟩
    refine ⟨?_, by unfold ok_X3_advance; simp [hs10, hok]⟩
    have etk : fn_X3_takeFreeNode σ p = fn_X3_takeFreeNode_L10 65 σ p (fr_X1_isEmpty σ p) (nI 0) := rfl
    rw [epr]
    rcases zq_prep (τ := τ) hp 65 0 (by omega) (by omega) with ⟨n, -, hn, hn0, hmin, e⟩ | ⟨hall, e⟩
    · rcases zd_take (σ := σ) (p := p) (fr_X1_isEmpty σ p) 65 0 (by omega) (by omega) with ⟨n', -, hn', hn0', hmin', e'⟩ | ⟨hall', e'⟩
      · have : n' = n := by
          rcases Nat.lt_trichotomy n' n with z | z | z
          · exact absurd ((en 0 n' (by decide) hn').symm.trans hn0') (hmin n' (by omega) z)
          · exact z
          · exact absurd ((en 0 n (by decide) hn).trans hn0) (hmin' n (by omega) z)
        subst this
        have hcn : (nI n').toNatClampNeg = n' := zq_c (by omega)
        have hσ : (fn_X3_prepare σ p).1 = zs_u (zs_u (zs_u (zs_u (fn_X0_appear σ n' (fr_X3_wantedOrder σ p) (if fr_X1_isEmpty σ p = 0 then -1 else σ 12 p) (if fr_X1_isEmpty σ p = 0 then 0 else σ 13 p) (σ 34 0)).1 22 p (nI n')) 2 n' (σ 19 p)) 3 n' 0) 10 p 8 := by
          unfold fn_X3_prepare
          rw [if_pos s22, etk, e']
          show (if fr_X3_isNode _ (zs_u (fn_X0_appear σ n' (fr_X3_wantedOrder σ p) (if fr_X1_isEmpty σ p = 0 then -1 else σ 12 p) (if fr_X1_isEmpty σ p = 0 then 0 else σ 13 p) (σ 34 0)).1 22 p (nI n') 22 p) = 0 then _ else _ : zs_O).1 = _
          rw [zs_us, zd_nd hn', if_neg (by decide), hcn]
          rfl
        rw [hσ, e]
        unfold zq_al zq_alF zq_al0 fn_X0_appear fn_X0_pointTo
        rw [hw]
        by_cases hd : τ 30 p = 0
        · have hem : ¬ fr_X1_isEmpty σ p = 0 := by unfold fr_X1_isEmpty; rw [if_pos (p30.trans hd)]; decide
          rw [if_neg hem, if_neg hem, if_pos hd, q1.2.1]
          dsimp only
          refine zr_E_up (p := p) hE hp ?_ ?_ ?_ ?_ ?_ ?_ ?_ ?_ ?_
          · intro c k hc8 hk64
            have ee := en c k hc8 hk64
            rcases (show c = 0 ∨ c = 1 ∨ c = 2 ∨ c = 3 ∨ c = 4 ∨ c = 5 ∨ c = 6 ∨ c = 7 by omega) with rfl | rfl | rfl | rfl | rfl | rfl | rfl | rfl <;> (by_cases hkn : k = n' <;> simp [zs_u, ee, e34, p12, p13, hkn])
          · intro b0 hb0; simp [zs_u, eb b0 hb0, zs_n3, zs_n4, zs_n5]
          · simp [zs_u, e32, e33, e34, zs_n3, zs_n4, zs_n5]
          · intro q hq hne; have f1 : ¬ q = 4 + p := by omega
            have f2 : ¬ 4 + q = p := by omega
            have f3 : ¬ 44 + q = 40 + (4 + p) := by omega
            have f4 : ¬ 40 + q = 40 + (4 + p) := by omega
            have f5 : ¬ 44 + q = 40 + p := by omega
            have f6 : ¬ q = 4 + q := by omega
            have f7 : ¬ 4 + q = 4 + p := by omega
            simp [zr_VC, zs_u, hne, f1, f2, f3, f4, f5, f6, f7, zs_n1, zs_n2, zs_n3, zs_n4, zs_n5]
          · intro q hq hne; simp [zr_VM, zs_u, hne]
          · simp [zs_u, zs_n1, zs_n2, zs_n3, zs_n4, zs_n5, p10, p11, p12, p13, p14, p15, p16, p21, p22, p24, p26, p30, p29, e32, e33, e34, h]
          · intro j hj hlt; have := est p j hp hj (by simpa [zs_u] using hlt); simpa [zs_u, zs_n1, zs_n2, zs_n3, zs_n4, zs_n5] using this
          · intro j hj hlt; have := erow p j hp hj (by simpa [zs_u] using hlt); simpa [zs_u, zs_n1, zs_n2, zs_n3, zs_n4, zs_n5] using this
          · exact ⟨fun _ => by simp [zs_u, q1], fun z => by simp [zs_u] at z, fun _ => by simp [zs_u, q3], fun z => by simp [zs_u] at z, fun z => by simp [zs_u] at z ⊢; exact q5 (Or.inr (Or.inr z))⟩
        · have hem : fr_X1_isEmpty σ p = 0 := by unfold fr_X1_isEmpty; rw [if_neg (fun z => hd (p30.symm.trans z))]
          rw [if_pos hem, if_pos hem, if_neg hd, q1.2.1]
          dsimp only
          refine zr_E_up (p := p) hE hp ?_ ?_ ?_ ?_ ?_ ?_ ?_ ?_ ?_
          · intro c k hc8 hk64
            have ee := en c k hc8 hk64
            rcases (show c = 0 ∨ c = 1 ∨ c = 2 ∨ c = 3 ∨ c = 4 ∨ c = 5 ∨ c = 6 ∨ c = 7 by omega) with rfl | rfl | rfl | rfl | rfl | rfl | rfl | rfl <;> (by_cases hkn : k = n' <;> simp [zs_u, ee, e34, p12, p13, hkn])
          · intro b0 hb0; simp [zs_u, eb b0 hb0, zs_n3, zs_n4, zs_n5]
          · simp [zs_u, e32, e33, e34, zs_n3, zs_n4, zs_n5]
          · intro q hq hne; have f1 : ¬ q = 4 + p := by omega
            have f2 : ¬ 4 + q = p := by omega
            have f3 : ¬ 44 + q = 40 + (4 + p) := by omega
            have f4 : ¬ 40 + q = 40 + (4 + p) := by omega
            have f5 : ¬ 44 + q = 40 + p := by omega
            have f6 : ¬ q = 4 + q := by omega
            have f7 : ¬ 4 + q = 4 + p := by omega
            simp [zr_VC, zs_u, hne, f1, f2, f3, f4, f5, f6, f7, zs_n1, zs_n2, zs_n3, zs_n4, zs_n5]
          · intro q hq hne; simp [zr_VM, zs_u, hne]
          · simp [zs_u, zs_n1, zs_n2, zs_n3, zs_n4, zs_n5, p10, p11, p12, p13, p14, p15, p16, p21, p22, p24, p26, p30, p29, e32, e33, e34, h]
          · intro j hj hlt; have := est p j hp hj (by simpa [zs_u] using hlt); simpa [zs_u, zs_n1, zs_n2, zs_n3, zs_n4, zs_n5] using this
          · intro j hj hlt; have := erow p j hp hj (by simpa [zs_u] using hlt); simpa [zs_u, zs_n1, zs_n2, zs_n3, zs_n4, zs_n5] using this
          · exact ⟨fun _ => by simp [zs_u, q1], fun z => by simp [zs_u] at z, fun _ => by simp [zs_u, q3], fun z => by simp [zs_u] at z, fun z => by simp [zs_u] at z ⊢; exact q5 (Or.inr (Or.inr z))⟩
      · exact absurd ((en 0 n (by decide) hn).trans hn0) (hall' n (by omega) hn)
    · rcases zd_take (σ := σ) (p := p) (fr_X1_isEmpty σ p) 65 0 (by omega) (by omega) with ⟨n', -, hn', hn0', hmin', e'⟩ | ⟨hall', e'⟩
      · exact absurd ((en 0 n' (by decide) hn').symm.trans hn0') (hall n' (by omega) hn')
      · have esame : zs_u σ 22 p (-1) = σ := by
          funext c k
          by_cases hck : c = 22 ∧ k = p
          · rw [hck.1, hck.2]; simp [zs_u, s22]
          · simp [zs_u, hck]
        have hσ : (fn_X3_prepare σ p).1 = (fn_X3_end σ p (-2)).1 := by
          unfold fn_X3_prepare
          rw [if_pos s22, etk, e']
          show (if fr_X3_isNode _ (zs_u σ 22 p (-1) 22 p) = 0 then ((fn_X3_end (zs_u σ 22 p (-1)) p (-2)).1, 0) else _ : zs_O).1 = _
          rw [zs_us, zd_nd0, if_pos rfl, esame]
        rw [hσ, e]
        exact ze_end hE hp hd4 ed (hown.imp (fun n hn => hn.1)) (-2)
  · have s22 : σ 22 p = nI ow := p22.trans ho
    have hco : (nI ow).toNatClampNeg = ow := zq_c (by omega)
    have hσ : (fn_X3_prepare σ p).1 = zs_u (zs_u (zs_u σ 2 ow (τ 19 p)) 3 ow 0) 10 p 8 := by
      unfold fn_X3_prepare
      rw [s22, if_neg (zq_m1 (by omega)), zd_nd ho64, if_neg (by decide), hco, q1.2.1]
      rfl
    have hτ : (fn_X4_prepare τ (nI p)).1 = zs_u (zs_u (zs_u τ 2 ow (τ 19 p)) 3 ow 0) 10 p 8 := by
      unfold fn_X4_prepare
      rw [hc, ho, if_neg (zq_ge (by omega)), hco]
    have hok : ok_X3_prepare σ p := by
      unfold ok_X3_prepare
      have okp : ∀ s k v, ok_X0_pointTo s k v 0 := fun s k v => ⟨Or.inl rfl, trivial⟩
      exact ⟨fun z => absurd (s22.symm.trans z) (zq_m1 (by omega)), fun _ => ⟨fun _ => trivial, fun _ => ⟨okp _ _ _, trivial⟩⟩⟩
    refine ⟨?_, by unfold ok_X3_advance; simp [hs10, hok]⟩
    rw [hσ, hτ]
    refine zr_E_up (p := p) hE hp ?_ ?_ ?_ ?_ ?_ ?_ ?_ ?_ ?_
    · intro c k hc8 hk64
      have ee := en c k hc8 hk64
      rcases (show c = 0 ∨ c = 1 ∨ c = 2 ∨ c = 3 ∨ c = 4 ∨ c = 5 ∨ c = 6 ∨ c = 7 by omega) with rfl | rfl | rfl | rfl | rfl | rfl | rfl | rfl <;> simp [zs_u, ee, e34, zs_n3, zs_n4, zs_n5]
    · intro b0 hb0; simp [zs_u, eb b0 hb0, zs_n3, zs_n4, zs_n5]
    · simp [zs_u, e32, e33, e34, zs_n3, zs_n4, zs_n5]
    · intro q hq hne; have f1 : ¬ q = 4 + p := by omega
      have f2 : ¬ 4 + q = p := by omega
      have f3 : ¬ 44 + q = 40 + (4 + p) := by omega
      have f4 : ¬ 40 + q = 40 + (4 + p) := by omega
      have f5 : ¬ 44 + q = 40 + p := by omega
      have f6 : ¬ q = 4 + q := by omega
      have f7 : ¬ 4 + q = 4 + p := by omega
      simp [zr_VC, zs_u, hne, f1, f2, f3, f4, f5, f6, f7, zs_n1, zs_n2, zs_n3, zs_n4, zs_n5]
    · intro q hq hne; simp [zr_VM, zs_u, hne]
    · simp [zs_u, zs_n1, zs_n2, zs_n3, zs_n4, zs_n5, p10, p11, p12, p13, p14, p15, p16, p21, p22, p24, p26, p30, p29, e32, e33, e34, h]
    · intro j hj hlt; have := est p j hp hj (by simpa [zs_u] using hlt); simpa [zs_u, zs_n1, zs_n2, zs_n3, zs_n4, zs_n5] using this
    · intro j hj hlt; have := erow p j hp hj (by simpa [zs_u] using hlt); simpa [zs_u, zs_n1, zs_n2, zs_n3, zs_n4, zs_n5] using this
    · exact ⟨fun _ => by simp [zs_u, q1], fun z => by simp [zs_u] at z, fun _ => by simp [zs_u, q3], fun z => by simp [zs_u] at z, fun z => by simp [zs_u] at z ⊢; exact q5 (Or.inr (Or.inr z))⟩
