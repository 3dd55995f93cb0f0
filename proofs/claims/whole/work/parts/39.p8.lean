/-! places 8, 9, 10, 13 -/
/-- a process's own node, if it has one, becomes free -/
theorem zr_free {N p : Nat} {τ t2 : zs_T} (hG : zr_G N τ) (hp : p < 4) (r0 : ∀ k, k < 64 → t2 0 k = if τ 22 p = nI k then 0 else τ 0 k) (r22 : ∀ q, q < 4 → t2 22 q = if q = p then -1 else τ 22 q) (eq1 : t2 1 = τ 1) (eq2 : t2 2 = τ 2) (eq3 : t2 3 = τ 3) (eq6 : t2 6 = τ 6) (eq7 : t2 7 = τ 7) (eq28 : t2 28 = τ 28) (eq29 : t2 29 = τ 29) (eq31 : t2 31 = τ 31) (eq32 : t2 32 = τ 32) (eq34 : t2 34 = τ 34) : zr_G N t2 ∧ zr_L t2 = zr_L τ ∧ ∀ q, zr_K τ t2 q := by
  obtain ⟨g1, g2, g3, g4, g5, g6, g7, g8, g9, g10, g11, g12, g13, g14, g15⟩ := id hG
  have own1 : ∀ m, m < 64 → τ 22 p = nI m → τ 0 m = 1 := by
    intro m hm e
    rcases g9 p hp with h1 | ⟨k, h1, h2, h3⟩
    · rw [e] at h1; exact absurd h1 (zq_m1 (by omega))
    · have := (nI_eq (by omega) (by omega)).mp (h1.symm.trans e)
      subst this; exact h3
  have hO' : ∀ m, m < 64 → ¬ τ 22 p = nI m → (zr_O t2 m ↔ zr_O τ m) := by
    intro m hm hmn
    constructor
    · rintro ⟨q, hq, e1⟩
      rw [r22 q hq] at e1
      by_cases hqp : q = p
      · rw [if_pos hqp] at e1; exact absurd e1.symm (zq_m1 (by omega))
      · rw [if_neg hqp] at e1; exact ⟨q, hq, e1⟩
    · rintro ⟨q, hq, e1⟩
      have hqp : q ≠ p := fun h => by subst h; exact hmn e1
      exact ⟨q, hq, by rw [r22 q hq, if_neg hqp]; exact e1⟩
  have eL : zr_L t2 = zr_L τ := by
    funext m
    unfold zr_L
    apply propext
    by_cases hm : m < 64
    · by_cases hmn : τ 22 p = nI m
      · rw [r0 m hm, if_pos hmn]
        constructor
        · rintro ⟨-, h2, -⟩; exact absurd h2 (by decide)
        · rintro ⟨-, -, h3⟩; exact absurd ⟨p, hp, hmn⟩ h3
      · rw [r0 m hm, if_neg hmn]
        constructor
        · rintro ⟨h1, h2, h3⟩; exact ⟨h1, h2, fun h => h3 ((hO' m h1 hmn).mpr h)⟩
        · rintro ⟨h1, h2, h3⟩; exact ⟨h1, h2, fun h => h3 ((hO' m h1 hmn).mp h)⟩
    · exact ⟨fun h => absurd h.1 hm, fun h => absurd h.1 hm⟩
  have s2 : ∀ m, m < 64 → τ 0 m = 2 → t2 0 m = 2 := by
    intro m hm h2
    rw [r0 m hm, if_neg (fun h => by rw [own1 m hm h] at h2; exact absurd h2 (by decide))]
    exact h2
  refine ⟨?_, eL, fun q => ⟨fun m hm => Or.inl (by rw [eL]; exact hm), fun m hm h2 _ _ _ => ⟨s2 m hm h2, by rw [eq7]⟩, fun m _ _ => ⟨by rw [eq6], by rw [eq1]⟩, fun m _ _ h3 _ => ⟨by rw [eq3]; exact h3, by rw [eq2]⟩, fun m _ _ => ⟨by rw [eq2], by rw [eq3]⟩, by rw [eq34]; exact Int32.le_refl _⟩⟩
  unfold zr_G
  rw [eL, eq1, eq2, eq3, eq6, eq28, eq29, eq31, eq32, eq34]
  refine ⟨g1, g2, g3, g4, ?_, g6, g7, g8, ?_, ?_, ?_, g12, g13, g14, g15⟩
  · intro k hk h2
    rw [r0 k hk] at h2
    by_cases hkn : τ 22 p = nI k
    · rw [if_pos hkn] at h2; exact absurd h2 (by decide)
    · rw [if_neg hkn] at h2; exact g5 k hk h2
  · intro q hq
    rw [r22 q hq]
    by_cases hqp : q = p
    · rw [if_pos hqp]; exact Or.inl rfl
    · rw [if_neg hqp]
      rcases g9 q hq with h1 | ⟨m, e1, hm, hm1⟩
      · exact Or.inl h1
      · refine Or.inr ⟨m, e1, hm, ?_⟩
        rw [r0 m hm, if_neg (fun h => hqp (g10 q p hq hp (e1.trans h.symm) (by rw [e1]; exact zq_m1 (by omega))))]
        exact hm1
  · intro a c ha hc' e1 h1
    rw [r22 a ha] at e1 h1
    rw [r22 c hc'] at e1
    by_cases hap : a = p
    · rw [if_pos hap] at h1; exact absurd rfl h1
    · rw [if_neg hap] at e1 h1
      by_cases hcp : c = p
      · rw [if_pos hcp] at e1; exact absurd e1 h1
      · rw [if_neg hcp] at e1; exact g10 a c ha hc' e1 h1
  · intro q hq
    obtain ⟨k, hk, ek, hrow⟩ := g11 q hq
    exact ⟨k, hk, ek, fun j hj => (hrow j hj).imp (fun m hm => ⟨hm.1, s2 m hm.1 hm.2⟩)⟩
/-- a bucket gets a node -/
theorem zr_bk {N b0 n0 : Nat} {τ t2 : zs_T} (hG : zr_G N τ) (hL : zr_L τ n0 ∧ zr_ev (τ 1 n0)) (r31 : ∀ k, t2 31 k = if k = b0 then nI n0 else τ 31 k) (e0 : t2 0 = τ 0) (e1 : t2 1 = τ 1) (e2 : t2 2 = τ 2) (e3 : t2 3 = τ 3) (e6 : t2 6 = τ 6) (e22 : t2 22 = τ 22) (e28 : t2 28 = τ 28) (e29 : t2 29 = τ 29) (e32 : t2 32 = τ 32) (e34 : t2 34 = τ 34) : zr_G N t2 := by
  obtain ⟨g1, g2, g3, g4, g5, g6, g7, g8, g9, g10, g11, g12, g13, g14, g15⟩ := id hG
  unfold zr_G
  rw [zr_L_congr e0 e22, e0, e1, e2, e3, e6, e22, e28, e29, e32, e34]
  refine ⟨g1, g2, g3, g4, g5, g6, fun b hb => ?_, ?_, g9, g10, g11, g12, g13, g14, g15⟩
  · rw [r31]
    split
    · exact Or.inr ⟨n0, rfl, hL⟩
    · exact g7 b hb
  · rw [r31]
    split
    · exact zq_m1 (by have := hL.1.1; omega)
    · exact g8
theorem zi_9 {N p : Nat} {τ : zs_T} (hI : zr_I N τ) (hp : p < 4) (h : τ 10 p = 9) : zr_I (N + 1) (fn_X4_oneStep τ (nI p)).1 ∧ ok_X4_oneStep τ (nI p) := by
  have hc : (nI p).toNatClampNeg = p := zq_c (by omega)
  have hv : vp_in (nI p) 4 := zq_in hp (by decide)
  obtain ⟨d, b, hB, -, -⟩ := (hI.2 p hp).B
  have hH := (hI.2 p hp).H9 h
  obtain ⟨⟨gv, eg, hgL, hge⟩, hd0⟩ := (hI.2 p hp).g9 h
  obtain ⟨hk, ⟨hd4, ed, hb, eb, hst⟩, h21, h24, hoe⟩ := hB
  have hd1 : 1 ≤ d := by
    rcases Nat.eq_zero_or_pos d with h0 | h0
    · rw [ed, h0] at hd0; exact absurd nI_0 hd0
    · exact h0
  have ed1 : nI d - 1 = nI (d - 1) := by rw [show (1 : Int32) = nI 1 from rfl, pk_sub (by omega)]
  obtain ⟨bb, hbb, ebb⟩ := hst (d - 1) (by omega)
  have e16 : 16 * nI p + nI (d - 1) = nI (16 * p + (d - 1)) := by rw [show (16 : Int32) = nI 16 from rfl, pk_mul, nI_add]
  have hc16 : (nI (16 * p + (d - 1))).toNatClampNeg = 16 * p + (d - 1) := zq_c (by omega)
  have hcb : (nI bb).toNatClampNeg = bb := zq_c (by omega)
  have hvb : vp_in (nI bb) 16 := zq_in hbb (by decide)
  have hv64 : vp_in (nI (16 * p + (d - 1))) 64 := zq_in (by omega) (by decide)
  -- the state once the own node is free
  obtain ⟨s1, hs1, hF, hcase, hoko⟩ : ∃ s1 : zs_T, (fn_X4_oneStep τ (nI p) = if zs_u s1 30 p (s1 30 p - 1) 31 ((zs_u s1 30 p (s1 30 p - 1) 27 ((16 * nI p + zs_u s1 30 p (s1 30 p - 1) 30 p).toNatClampNeg)).toNatClampNeg) < 0 then (zs_u (zs_u (zs_u (zs_u s1 30 p (s1 30 p - 1)) 31 ((zs_u s1 30 p (s1 30 p - 1) 27 ((16 * nI p + zs_u s1 30 p (s1 30 p - 1) 30 p).toNatClampNeg)).toNatClampNeg) (s1 23 p)) 17 p (s1 23 p)) 10 p 3, 0) else (zs_u (zs_u (zs_u s1 30 p (s1 30 p - 1)) 17 p (s1 23 p)) 10 p 3, 0)) ∧ (zr_G N s1 ∧ zr_L s1 = zr_L τ ∧ ∀ q, zr_K τ s1 q) ∧ (s1 = zs_u τ 22 p (-1) ∨ ∃ n, n < 64 ∧ τ 22 p = nI n ∧ s1 = zs_u (zs_u τ 0 n 0) 22 p (-1)) ∧ ok_X4_oneStep τ (nI p) := by
    rcases hI.1.2.2.2.2.2.2.2.2.1 p hp with ho | ⟨n, ho, hn, hn1⟩
    · refine ⟨zs_u τ 22 p (-1), ?_, ?_, Or.inl rfl, ?_⟩
      · unfold fn_X4_oneStep
        rw [hc, if_neg (by rw [h]; decide), if_neg (by rw [h]; decide), if_neg (by rw [h]; decide), if_neg (by rw [h]; decide), if_neg (by rw [h]; decide), if_neg (by rw [h]; decide), if_neg (by rw [h]; decide), if_neg (by rw [h]; decide), if_pos h, if_pos (show τ 22 p < 0 by rw [ho]; decide)]
        rfl
      · refine zr_free hI.1 hp (fun k hk => ?_) (fun q hq => ?_) rfl rfl rfl rfl rfl rfl rfl rfl rfl rfl
        · rw [if_neg (by rw [ho]; exact fun q => zq_m1 (by omega) q.symm)]; rfl
        · simp [zs_u]
      · unfold ok_X4_oneStep
        simp [hc, h, hv, ho, zs_u, ed, ed1, e16, hc16, hv64, ebb, hcb, hvb]
    · have hcn : (nI n).toNatClampNeg = n := zq_c (by omega)
      have hvn : vp_in (nI n) 64 := zq_in hn (by decide)
      have hnn : ¬ nI n < 0 := zq_ge (by omega)
      refine ⟨zs_u (zs_u τ 0 n 0) 22 p (-1), ?_, ?_, Or.inr ⟨n, hn, ho, rfl⟩, ?_⟩
      · unfold fn_X4_oneStep
        rw [hc, if_neg (by rw [h]; decide), if_neg (by rw [h]; decide), if_neg (by rw [h]; decide), if_neg (by rw [h]; decide), if_neg (by rw [h]; decide), if_neg (by rw [h]; decide), if_neg (by rw [h]; decide), if_neg (by rw [h]; decide), if_pos h, if_neg (show ¬ τ 22 p < 0 by rw [ho]; exact hnn), ho, hcn]
        rfl
      · refine zr_free hI.1 hp (fun k hk => ?_) (fun q hq => ?_) rfl rfl rfl rfl rfl rfl rfl rfl rfl rfl
        · rw [ho]
          by_cases hkn : k = n
          · subst hkn; simp [zs_u]
          · rw [if_neg (fun q => hkn ((nI_eq (by omega) (by omega)).mp q).symm)]; simp [zs_u, hkn]
        · simp [zs_u]
      · unfold ok_X4_oneStep
        simp [hc, h, hv, ho, zs_u, ed, ed1, e16, hc16, hv64, ebb, hcb, hvb, hcn, hvn, hnn]
  refine ⟨?_, hoko⟩
  have q30 : s1 30 = τ 30 := by rcases hcase with h | ⟨n, -, -, h⟩ <;> rw [h] <;> rfl
  have q27 : s1 27 = τ 27 := by rcases hcase with h | ⟨n, -, -, h⟩ <;> rw [h] <;> rfl
  have q23 : s1 23 = τ 23 := by rcases hcase with h | ⟨n, -, -, h⟩ <;> rw [h] <;> rfl
  have q31 : s1 31 = τ 31 := by rcases hcase with h | ⟨n, -, -, h⟩ <;> rw [h] <;> rfl
  have q1 : s1 1 = τ 1 := by rcases hcase with h | ⟨n, -, -, h⟩ <;> rw [h] <;> rfl
  have q22 : s1 22 p = -1 := by rcases hcase with h | ⟨n, -, -, h⟩ <;> rw [h] <;> simp [zs_u]
  have q12 : s1 12 = τ 12 := by rcases hcase with h | ⟨n, -, -, h⟩ <;> rw [h] <;> rfl
  have q16 : s1 16 = τ 16 := by rcases hcase with h | ⟨n, -, -, h⟩ <;> rw [h] <;> rfl
  have q21 : s1 21 = τ 21 := by rcases hcase with h | ⟨n, -, -, h⟩ <;> rw [h] <;> rfl
  have q24 : s1 24 = τ 24 := by rcases hcase with h | ⟨n, -, -, h⟩ <;> rw [h] <;> rfl
  have q14 : s1 14 = τ 14 := by rcases hcase with h | ⟨n, -, -, h⟩ <;> rw [h] <;> rfl
  have q15 : s1 15 = τ 15 := by rcases hcase with h | ⟨n, -, -, h⟩ <;> rw [h] <;> rfl
  have q34 : s1 34 = τ 34 := by rcases hcase with h | ⟨n, -, -, h⟩ <;> rw [h] <;> rfl
  have qQ : ∀ q, q ≠ p → zr_Q τ s1 q := by
    intro q hqp
    rcases hcase with h | ⟨n, -, -, h⟩ <;> rw [h] <;> simp [zr_Q, zs_u, hqp]
  obtain ⟨hG1, hL1, hK1⟩ := hF
  rw [hs1]
  have eA : zs_u s1 30 p (s1 30 p - 1) 27 ((16 * nI p + zs_u s1 30 p (s1 30 p - 1) 30 p).toNatClampNeg) = nI bb := by
    have : zs_u s1 30 p (s1 30 p - 1) 30 p = nI (d - 1) := by simp [zs_u]; rw [q30, ed, ed1]
    rw [this, e16, hc16]
    show s1 27 (16 * p + (d - 1)) = nI bb
    rw [q27]; exact ebb
  rw [eA, hcb, q23, eg]
  have hnd : zr_L s1 gv ∧ zr_ev (s1 1 gv) := by rw [hL1, q1]; exact ⟨hgL, hge⟩
  have eD : ∀ t3 : zs_T, t3 0 = s1 0 → t3 1 = s1 1 → t3 22 = s1 22 → zr_L t3 gv ∧ zr_ev (t3 1 gv) := fun t3 a0 a1 a22 => by rw [zr_L_congr a0 a22, a1]; exact hnd
  have fin : ∀ t3 : zs_T, zr_G N t3 → t3 0 = s1 0 → t3 1 = s1 1 → t3 2 = s1 2 → t3 3 = s1 3 → t3 6 = s1 6 → t3 7 = s1 7 → t3 22 = s1 22 → t3 34 = s1 34 → t3 27 = s1 27 → t3 12 = s1 12 → t3 16 = s1 16 → t3 21 = s1 21 → t3 24 = s1 24 → t3 14 = s1 14 → t3 15 = s1 15 → (∀ q, q ≠ p → zr_Q s1 t3 q) → t3 10 p = 3 → t3 17 p = nI gv → t3 30 p = nI (d - 1) → zr_I (N + 1) t3 := by
    intro t3 hG3 a0 a1 a2 a3 a6 a7 a22 a34 a27 a12 a16 a21 a24 a14 a15 aQ a10 a17 a30
    refine ⟨zr_G_mono (by omega) hG3, fun q hq => ?_⟩
    by_cases hqp : q = p
    · subst hqp
      refine zr_mk3 (d := d - 1) (b := b) ⟨by rw [a12, q12]; exact hk, ⟨by omega, a30, hb, by rw [a16, q16]; exact eb, fun j hj => by rw [a27, q27]; exact hst j (by omega)⟩, by rw [a21, q21]; exact h21, by rw [a24, q24]; exact h24, fun n hn e0 => ?_⟩ a10 ⟨by rw [a14, q14, a34, q34]; exact hH.1, by rw [a15, q15, a34, q34]; exact hH.2⟩ ⟨gv, a17, eD t3 a0 a1 a22⟩
      rw [a22, q22] at e0
      exact absurd e0.symm (zq_m1 (by omega))
    · have hP1 := zr_P_keep hI.1 (hK1 q) (qQ q hqp) hq (hI.2 q hq)
      exact zr_P_keep hG1 (zr_K_of a0 a1 a2 a3 a6 a7 a22 a34) (aQ q hqp) hq hP1
  split
  · refine fin _ (zr_bk (b0 := bb) hG1 hnd (fun k => by simp [zs_u]) rfl rfl rfl rfl rfl rfl rfl rfl rfl rfl) rfl rfl rfl rfl rfl rfl rfl rfl rfl rfl rfl rfl rfl rfl rfl (fun q hqp => by simp [zr_Q, zs_u, hqp]) (by simp [zs_u]) (by simp [zs_u]) ?_
    simp [zs_u]; rw [q30, ed, ed1]
  · refine fin _ (zr_G_congr hG1 rfl rfl rfl rfl rfl rfl rfl rfl rfl rfl rfl) rfl rfl rfl rfl rfl rfl rfl rfl rfl rfl rfl rfl rfl rfl rfl (fun q hqp => by simp [zr_Q, zs_u, hqp]) (by simp [zs_u]) (by simp [zs_u]) ?_
    simp [zs_u]; rw [q30, ed, ed1]
theorem zi_13 {N p : Nat} {τ : zs_T} (hI : zr_I N τ) (hp : p < 4) (h : τ 10 p = 13) : zr_I (N + 1) (fn_X4_oneStep τ (nI p)).1 ∧ ok_X4_oneStep τ (nI p) := by
  have hc : (nI p).toNatClampNeg = p := zq_c (by omega)
  have hv : vp_in (nI p) 4 := zq_in hp (by decide)
  obtain ⟨d, b, hB, -, -⟩ := (hI.2 p hp).B
  have hends := zr_ends hI.1 (fun q hq _ => hI.2 q hq) hB hp 1
  have hz := hI.1.2.2.2.2.2.2.2.2.2.2.2.2.2.2
  have eif : fn_X4_oneStep τ (nI p) = (if 2 * (τ 32 0) < τ 33 0 then (if τ 32 0 < 16 then ((fn_X4_ends (zs_u τ 32 0 ((τ 32 0) * 2)) (nI p) 1).1, 0) else ((fn_X4_ends τ (nI p) 1).1, 0)) else ((fn_X4_ends τ (nI p) 1).1, 0)) := by
    unfold fn_X4_oneStep
    rw [hc, if_neg (by rw [h]; decide), if_neg (by rw [h]; decide), if_neg (by rw [h]; decide), if_neg (by rw [h]; decide), if_neg (by rw [h]; decide), if_neg (by rw [h]; decide), if_neg (by rw [h]; decide), if_neg (by rw [h]; decide), if_neg (by rw [h]; decide), if_neg (by rw [h]; decide), if_neg (by rw [h]; decide), if_neg (by rw [h]; decide), if_pos h]
  rw [eif]
  by_cases h1 : 2 * (τ 32 0) < τ 33 0
  · by_cases h2 : τ 32 0 < 16
    · have hG2 : zr_G N (zs_u τ 32 0 ((τ 32 0) * 2)) := by
        obtain ⟨g1, g2, g3, g4, g5, g6, g7, g8, g9, g10, g11, g12, g13, g14, g15⟩ := id hI.1
        refine ⟨g1, g2, g3, g4, g5, g6, g7, g8, g9, g10, g11, g12, g13, g14, ?_⟩
        have : zs_u τ 32 0 (τ 32 0 * 2) 32 0 = τ 32 0 * 2 := by simp [zs_u]
        rw [this]
        rcases g15 with e | e | e | e | e <;> rw [e] at h2 ⊢ <;> first | decide | exact absurd h2 (by decide)
      have hB2 : zr_B (zs_u τ 32 0 ((τ 32 0) * 2)) p d b := hB
      have hends2 := zr_ends hG2 (fun q hq hne => zr_P_keep hI.1 (zr_K_of rfl rfl rfl rfl rfl rfl rfl rfl) (by simp [zr_Q, zs_u]) hq (hI.2 q hq)) hB2 hp 1
      constructor
      · rw [if_pos h1, if_pos h2]
        exact ⟨zr_G_mono (by omega) hends2.1.1, hends2.1.2⟩
      · unfold ok_X4_oneStep
        simp [hc, h, hv, h1, h2, hends2.2]
    · constructor
      · rw [if_pos h1, if_neg h2]
        exact ⟨zr_G_mono (by omega) hends.1.1, hends.1.2⟩
      · unfold ok_X4_oneStep
        simp [hc, h, hv, h1, h2, hends.2]
  · constructor
    · rw [if_neg h1]
      exact ⟨zr_G_mono (by omega) hends.1.1, hends.1.2⟩
    · unfold ok_X4_oneStep
      simp [hc, h, hv, h1, hends.2]
theorem zi_10 {N p : Nat} {τ : zs_T} (hI : zr_I N τ) (hp : p < 4) (h : τ 10 p = 10) : zr_I (N + 1) (fn_X4_oneStep τ (nI p)).1 ∧ ok_X4_oneStep τ (nI p) := by
  have hc : (nI p).toNatClampNeg = p := zq_c (by omega)
  have hv : vp_in (nI p) 4 := zq_in hp (by decide)
  obtain ⟨d, b, hB, -, -⟩ := (hI.2 p hp).B
  have hH := (hI.2 p hp).H10 h
  have hf := (hI.2 p hp).f10 h
  have hpr := (hI.2 p hp).pr10 h
  obtain ⟨hcu, hnx⟩ := (hI.2 p hp).cu10 h
  have hod := (hI.2 p hp).od10 h
  obtain ⟨c, ec, hcP⟩ := id hcu
  have hcl := hcP.lt
  have hcc : (nI c).toNatClampNeg = c := zq_c (by omega)
  have hvc : vp_in (nI c) 64 := zq_in hcl (by decide)
  have eif : fn_X4_oneStep τ (nI p) = (if (fn_X4_change (zs_u τ 10 p 3) (τ 19 p) (τ 20 p) (τ 20 p) 1).2 = 0 then ((fn_X4_change (zs_u τ 10 p 3) (τ 19 p) (τ 20 p) (τ 20 p) 1).1, 0) else ((zs_u (zs_u (zs_u (fn_X4_change (zs_u τ 10 p 3) (τ 19 p) (τ 20 p) (τ 20 p) 1).1 33 0 ((fn_X4_change (zs_u τ 10 p 3) (τ 19 p) (τ 20 p) (τ 20 p) 1).1 33 0 - 1)) 25 p ((fn_X4_change (zs_u τ 10 p 3) (τ 19 p) (τ 20 p) (τ 20 p) 1).1 5 ((fn_X4_change (zs_u τ 10 p 3) (τ 19 p) (τ 20 p) (τ 20 p) 1).1 19 p).toNatClampNeg)) 10 p 11), 0)) := by
    unfold fn_X4_oneStep
    rw [hc, if_neg (by rw [h]; decide), if_neg (by rw [h]; decide), if_neg (by rw [h]; decide), if_neg (by rw [h]; decide), if_neg (by rw [h]; decide), if_neg (by rw [h]; decide), if_neg (by rw [h]; decide), if_neg (by rw [h]; decide), if_neg (by rw [h]; decide), if_pos h]
    rfl
  rw [eif, ec]
  have hokc : ok_X4_change (zs_u τ 10 p 3) (nI c) (τ 20 p) (τ 20 p) 1 := zq_okchange hcl (Or.inr rfl)
  have e19 : (zs_u τ 10 p 3) 19 p = nI c := ec
  have e20 : (zs_u τ 10 p 3) 20 p = τ 20 p := rfl
  by_cases hch : τ 2 c = τ 20 p ∧ τ 3 c = 0
  · have ech : fn_X4_change (zs_u τ 10 p 3) (nI c) (τ 20 p) (τ 20 p) 1 = (zs_u (zs_u (zs_u τ 10 p 3) 2 c (τ 20 p)) 3 c 1, 1) := zq_changeT hcl hch.1 hch.2
    have hcL := hcP.L hI.1 hch.2
    have ec1 : (zs_u (zs_u (zs_u τ 10 p 3) 2 c (τ 20 p)) 3 c 1) 19 p = nI c := ec
    constructor
    · rw [ech, if_neg (show ¬ ((1 : Int32) = 0) by decide)]
      show zr_I (N + 1) (zs_u (zs_u (zs_u (zs_u (zs_u (zs_u τ 10 p 3) 2 c (τ 20 p)) 3 c 1) 33 0 (τ 33 0 - 1)) 25 p (τ 5 ((zs_u (zs_u (zs_u τ 10 p 3) 2 c (τ 20 p)) 3 c 1) 19 p).toNatClampNeg)) 10 p 11)
      rw [ec1, hcc]
      generalize hτ' : zs_u (zs_u (zs_u (zs_u (zs_u (zs_u τ 10 p 3) 2 c (τ 20 p)) 3 c 1) 33 0 (τ 33 0 - 1)) 25 p (τ 5 c)) 10 p 11 = t2
      have r2 : t2 2 = τ 2 := by
        rw [← hτ']; funext k
        by_cases hk : k = c
        · subst hk; simp [zs_u, hch.1]
        · simp [zs_u, hk]
      have r3 : ∀ k, t2 3 k = if k = c then 1 else τ 3 k := fun k => by rw [← hτ']; simp [zs_u]
      have e0 : t2 0 = τ 0 := by rw [← hτ']; rfl
      have e1 : t2 1 = τ 1 := by rw [← hτ']; rfl
      have e6 : t2 6 = τ 6 := by rw [← hτ']; rfl
      have e7 : t2 7 = τ 7 := by rw [← hτ']; rfl
      have e22 : t2 22 = τ 22 := by rw [← hτ']; rfl
      have e28 : t2 28 = τ 28 := by rw [← hτ']; rfl
      have e29 : t2 29 = τ 29 := by rw [← hτ']; rfl
      have e31 : t2 31 = τ 31 := by rw [← hτ']; rfl
      have e32 : t2 32 = τ 32 := by rw [← hτ']; rfl
      have e34 : t2 34 = τ 34 := by rw [← hτ']; rfl
      have hG' : zr_G N t2 := by
        obtain ⟨g1, g2, g3, g4, g5, g6, g7, g8, g9, g10, g11, g12, g13, g14, g15⟩ := id hI.1
        unfold zr_G
        rw [zr_L_congr e0 e22, e0, e1, r2, e6, e22, e28, e29, e31, e32, e34]
        refine ⟨fun k hk => ?_, g2, g3, g4, fun k hk h2 => ?_, fun n hn hev => ?_, g7, g8, g9, g10, g11, g12, g13, g14, g15⟩
        · rw [r3]; split
          · exact Or.inr rfl
          · exact g1 k hk
        · rw [r3]; split
          · rfl
          · exact g5 k hk h2
        · rw [r3, if_neg (fun q => by subst q; exact hod n hcl ec hev)]; exact g6 n hn hev
      have hK : ∀ q, q < 4 → zr_K τ t2 q := fun q hq => ⟨fun n hn => Or.inl (by rw [zr_L_congr e0 e22]; exact hn), fun n _ h2 _ _ _ => ⟨by rw [e0]; exact h2, by rw [e7]⟩, fun n _ _ => ⟨by rw [e6], by rw [e1]⟩, fun n _ _ h3 _ => ⟨by rw [r3]; split; rfl; exact h3, by rw [r2]⟩, fun n hn ho => ⟨by rw [r2], by rw [r3, if_neg (fun z => by subst z; exact hcL.2.2 ⟨q, hq, ho⟩)]⟩, by rw [e34]; exact Int32.le_refl _⟩
      refine ⟨zr_G_mono (by omega) hG', fun q hq => ?_⟩
      by_cases hqp : q = p
      · subst hqp
        have e14 : t2 14 q = τ 14 q := by rw [← hτ']; rfl
        have e15 : t2 15 q = τ 15 q := by rw [← hτ']; rfl
        have pc := zr_Pt_congr (p := q) e0 e6 e7 e22 e14 e15
        have e20' : t2 20 q = τ 20 q := by rw [← hτ']; rfl
        have e19' : t2 19 q = τ 19 q := by rw [← hτ']; rfl
        refine zr_mk11 (zr_B_congr hB e1 (by rw [← hτ']; rfl) (by rw [← hτ']; rfl) (by rw [← hτ']; rfl) (fun _ _ => by rw [← hτ']; rfl) (by rw [← hτ']; exact hB.2.2.1) (by rw [← hτ']; exact hB.2.2.2.1) (by rw [e22])) (by rw [← hτ']; simp [zs_u]) ⟨by rw [e14, e34]; exact hH.1, by rw [e15, e34]; exact hH.2⟩ (zr_nd_congr (zr_D_of e0 e1 e22 hf) (by rw [← hτ']; rfl) rfl) (zr_nd_congr hpr (by rw [← hτ']; rfl) pc) (zr_nd_congr hcu e19' pc) (by rw [e20']; exact hnx) ?_
        intro c' hc' e'
        have : c = c' := (nI_eq (by omega) (by omega)).mp (ec.symm.trans (e19'.symm.trans e'))
        subst this
        exact ⟨by rw [r3, if_pos rfl], by rw [r2, e20']; exact hch.1⟩
      · exact zr_P_keep hI.1 (hK q hq) (by rw [← hτ']; simp [zr_Q, zs_u, hqp]) hq (hI.2 q hq)
    · unfold ok_X4_oneStep
      simp only [hc, h, hv, e19, e20, ech]
      simp [hokc, zs_u, ec, hvc, hcc]
  · have ech : fn_X4_change (zs_u τ 10 p 3) (nI c) (τ 20 p) (τ 20 p) 1 = (zs_u τ 10 p 3, 0) := zq_changeF hcl hch
    constructor
    · rw [ech, if_pos rfl]
      refine zr_loc (p := p) hI rfl rfl rfl rfl rfl rfl rfl rfl rfl rfl rfl rfl (fun q hq hne => by simp [zr_Q, zs_u, hne]) ?_
      exact zr_mk3 (zr_B_congr hB rfl rfl rfl rfl (fun _ _ => rfl) hB.2.2.1 hB.2.2.2.1 rfl) (by simp [zs_u]) hH (zr_D_of (τ := τ) rfl rfl rfl hf)
    · unfold ok_X4_oneStep
      simp only [hc, h, hv, e19, e20, ech]
      simp [hokc]
