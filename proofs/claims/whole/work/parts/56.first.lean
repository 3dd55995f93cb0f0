/-! the two new objects are alike, and the reference's invariant holds -/
theorem zh_ord (h : Nat → Int32) : fr_X3_orderOfBucket (zb_σ h) 0 = 0 := by
  have e : fr_X3_turned (zb_σ h) 0 = fr_X3_turned zq_0 0 := zq_t3s _ _ _ _ _ _
  have e2 : fr_X3_turned zq_0 0 = 0 := by decide +kernel
  unfold fr_X3_orderOfBucket
  rw [e, e2]
  rfl
theorem zh_n0 (h : Nat → Int32) : zb_first h 0 0 = 1 ∧ zb_first h 1 0 = 0 ∧ zb_first h 2 0 = -1 ∧ zb_first h 3 0 = 0 ∧ zb_first h 4 0 = -1 ∧ zb_first h 5 0 = 0 ∧ zb_first h 6 0 = 1 ∧ zb_first h 7 0 = 0 := by
  unfold zb_first
  rw [zh_ord]
  refine ⟨?_, ?_, ?_, ?_, ?_, ?_, ?_, ?_⟩ <;> simp [fn_X0_appear, fn_X0_pointTo, zs_u]
theorem zh_nk (h : Nat → Int32) (c k : Nat) (hc : c < 8) (hk : k ≠ 0) : zb_first h c k = if c = 2 ∨ c = 4 then -1 else 0 := by
  unfold zb_first
  rw [zs_uk hk]
  have e : ∀ v, (fn_X0_appear (zb_σ h) 0 v (-1) 0 1).1 c k = zb_σ h c k := by
    intro v
    simp [fn_X0_appear, fn_X0_pointTo, zs_u, hk]
  rw [e]
  unfold zb_σ
  rcases (show c = 0 ∨ c = 1 ∨ c = 2 ∨ c = 3 ∨ c = 4 ∨ c = 5 ∨ c = 6 ∨ c = 7 by omega) with rfl | rfl | rfl | rfl | rfl | rfl | rfl | rfl <;> rfl
theorem zh_b0 (h : Nat → Int32) : zb_first h 31 0 = 0 := by unfold zb_first; rw [zs_us]
theorem zh_bk (h : Nat → Int32) (b : Nat) (hb : b ≠ 0) : zb_first h 31 b = h b := by
  unfold zb_first
  rw [zs_uk hb]
  simp [fn_X0_appear, fn_X0_pointTo, zs_u, hb, zb_σ]
theorem zh_c (h : Nat → Int32) (c k : Nat) (hc : 8 ≤ c) (h31 : c ≠ 31) : zb_first h c k = zb_σ h c k := by
  unfold zb_first
  rw [zs_uc h31]
  have e : ∀ a, a < 8 → ¬ c = a := fun a h => by omega
  simp [fn_X0_appear, fn_X0_pointTo, zs_u, e]
theorem zh_E {h : Nat → Int32} {τ : zs_T} (hh : ∀ t, t < 16 → h t = -1) (hB : zm_B 64 16 4 τ) (h0 : τ 0 0 = 1) (h6 : τ 6 0 = 1) : zr_E (zb_first h) τ := by
  obtain ⟨b1, b2, b3, b4, b5, b6⟩ := hB
  have o : ∀ c t, c ≠ 0 → c ≠ 2 → c ≠ 4 → c ≠ 6 → c ≠ 22 → c ≠ 26 → c ≠ 31 → c ≠ 32 → c ≠ 34 → τ c t = 0 := by
    intro c t c0 c2 c4 c6 c22 c26 c31 c32 c34
    rw [b6 c t c0 c2 c4 c6 c22 c26 c31]
    unfold zm_τ0
    rw [if_neg (by omega)]
  have z : ∀ c t, 8 ≤ c → c ≠ 17 → c ≠ 18 → c ≠ 19 → c ≠ 20 → c ≠ 22 → c ≠ 23 → c ≠ 25 → c ≠ 26 → c ≠ 31 → c ≠ 32 → c ≠ 34 → zb_first h c t = 0 := by
    intro c t c8 c17 c18 c19 c20 c22 c23 c25 c26 c31 c32 c34
    rw [zh_c h c t c8 c31]
    unfold zb_σ
    rw [if_neg (by omega), if_neg (by omega), if_neg (by omega)]
  have y : ∀ c t, c = 18 ∨ c = 19 ∨ c = 20 ∨ c = 22 ∨ c = 26 → zb_first h c t = -1 := by
    intro c t hc
    rw [zh_c h c t (by omega) (by omega)]
    unfold zb_σ
    rw [if_neg (by omega), if_pos (by omega)]
  refine ⟨⟨?_, ?_, ⟨?_, ?_, ?_⟩, ?_, ?_, ?_⟩, fun p hp => ⟨?_, ?_, ?_, ?_, ?_⟩⟩
  · intro c k hc hk
    by_cases hk0 : k = 0
    · subst hk0
      obtain ⟨e0, e1, e2, e3, e4, e5, e6, e7⟩ := zh_n0 h
      rcases (show c = 0 ∨ c = 1 ∨ c = 2 ∨ c = 3 ∨ c = 4 ∨ c = 5 ∨ c = 6 ∨ c = 7 by omega) with rfl | rfl | rfl | rfl | rfl | rfl | rfl | rfl
      · rw [e0, h0]
      · rw [e1, o 1 0 (by decide) (by decide) (by decide) (by decide) (by decide) (by decide) (by decide) (by decide) (by decide)]
      · rw [e2, (b1 0 hk).1]
      · rw [e3, o 3 0 (by decide) (by decide) (by decide) (by decide) (by decide) (by decide) (by decide) (by decide) (by decide)]
      · rw [e4, (b1 0 hk).2]
      · rw [e5, o 5 0 (by decide) (by decide) (by decide) (by decide) (by decide) (by decide) (by decide) (by decide) (by decide)]
      · rw [e6, h6]
      · rw [e7, o 7 0 (by decide) (by decide) (by decide) (by decide) (by decide) (by decide) (by decide) (by decide) (by decide)]
    · rw [zh_nk h c k hc hk0]
      rcases (show c = 0 ∨ c = 1 ∨ c = 2 ∨ c = 3 ∨ c = 4 ∨ c = 5 ∨ c = 6 ∨ c = 7 by omega) with rfl | rfl | rfl | rfl | rfl | rfl | rfl | rfl
      · rw [(b5 k hk0).1]; rfl
      · rw [o 1 k (by decide) (by decide) (by decide) (by decide) (by decide) (by decide) (by decide) (by decide) (by decide)]; rfl
      · rw [(b1 k hk).1]; rfl
      · rw [o 3 k (by decide) (by decide) (by decide) (by decide) (by decide) (by decide) (by decide) (by decide) (by decide)]; rfl
      · rw [(b1 k hk).2]; rfl
      · rw [o 5 k (by decide) (by decide) (by decide) (by decide) (by decide) (by decide) (by decide) (by decide) (by decide)]; rfl
      · rw [(b5 k hk0).2]; rfl
      · rw [o 7 k (by decide) (by decide) (by decide) (by decide) (by decide) (by decide) (by decide) (by decide) (by decide)]; rfl
  · intro b hb
    by_cases hb0 : b = 0
    · subst hb0; rw [zh_b0, b3]
    · rw [zh_bk h b hb0, hh b hb, b2 b (by omega) hb]
  · rw [zh_c h 32 0 (by decide) (by decide), b6 32 0 (by decide) (by decide) (by decide) (by decide) (by decide) (by decide) (by decide)]; rfl
  · rw [zh_c h 33 0 (by decide) (by decide), b6 33 0 (by decide) (by decide) (by decide) (by decide) (by decide) (by decide) (by decide)]; rfl
  · rw [zh_c h 34 0 (by decide) (by decide), b6 34 0 (by decide) (by decide) (by decide) (by decide) (by decide) (by decide) (by decide)]; rfl
  · intro p hp
    have q : ∀ c t t', 8 ≤ c → c < 31 → c ≠ 17 → c ≠ 18 → c ≠ 19 → c ≠ 20 → c ≠ 22 → c ≠ 23 → c ≠ 25 → c ≠ 26 → zb_first h c t = τ c t' := by
      intro c t t' c8 cl c17 c18 c19 c20 c22 c23 c25 c26
      rw [z c t c8 c17 c18 c19 c20 c22 c23 c25 c26 (by omega) (by omega) (by omega), o c t' (by omega) (by omega) (by omega) (by omega) (by omega) (by omega) (by omega) (by omega) (by omega)]
    refine ⟨?_, ?_, ?_, ?_, ?_, ?_, ?_, ?_, ?_, ?_, ?_, ?_, ?_⟩
    · exact q 10 p p (by decide) (by decide) (by decide) (by decide) (by decide) (by decide) (by decide) (by decide) (by decide) (by decide)
    · exact q 11 p p (by decide) (by decide) (by decide) (by decide) (by decide) (by decide) (by decide) (by decide) (by decide) (by decide)
    · exact q 12 p p (by decide) (by decide) (by decide) (by decide) (by decide) (by decide) (by decide) (by decide) (by decide) (by decide)
    · exact q 13 p p (by decide) (by decide) (by decide) (by decide) (by decide) (by decide) (by decide) (by decide) (by decide) (by decide)
    · exact q 14 p p (by decide) (by decide) (by decide) (by decide) (by decide) (by decide) (by decide) (by decide) (by decide) (by decide)
    · exact q 15 p p (by decide) (by decide) (by decide) (by decide) (by decide) (by decide) (by decide) (by decide) (by decide) (by decide)
    · exact q 16 p p (by decide) (by decide) (by decide) (by decide) (by decide) (by decide) (by decide) (by decide) (by decide) (by decide)
    · exact q 21 p p (by decide) (by decide) (by decide) (by decide) (by decide) (by decide) (by decide) (by decide) (by decide) (by decide)
    · rw [y 22 p (by omega), (b4 p hp).1]
    · exact q 24 p p (by decide) (by decide) (by decide) (by decide) (by decide) (by decide) (by decide) (by decide) (by decide) (by decide)
    · rw [y 26 p (by omega), (b4 p hp).2]
    · exact q 30 p p (by decide) (by decide) (by decide) (by decide) (by decide) (by decide) (by decide) (by decide) (by decide) (by decide)
    · rw [z 30 (4 + p) (by decide) (by decide) (by decide) (by decide) (by decide) (by decide) (by decide) (by decide) (by decide) (by decide) (by decide) (by decide), o 29 p (by decide) (by decide) (by decide) (by decide) (by decide) (by decide) (by decide) (by decide) (by decide)]
  · intro p j hp hj
    rw [z (40 + p) j (by omega) (by omega) (by omega) (by omega) (by omega) (by omega) (by omega) (by omega) (by omega) (by omega) (by omega) (by omega), o 27 (16 * p + j) (by decide) (by decide) (by decide) (by decide) (by decide) (by decide) (by decide) (by decide) (by decide)]
    exact fun _ => rfl
  · intro p j hp hj
    rw [z (44 + p) j (by omega) (by omega) (by omega) (by omega) (by omega) (by omega) (by omega) (by omega) (by omega) (by omega) (by omega) (by omega), o 28 (64 * p + j) (by decide) (by decide) (by decide) (by decide) (by decide) (by decide) (by decide) (by decide) (by decide)]
    exact fun _ => rfl
  · intro hne
    exact absurd (o 10 p (by decide) (by decide) (by decide) (by decide) (by decide) (by decide) (by decide) (by decide) (by decide)) hne
  · intro _
    exact ⟨y 18 p (by omega), y 19 p (by omega), y 20 p (by omega), y 22 p (by omega)⟩
  · intro h3
    rw [o 10 p (by decide) (by decide) (by decide) (by decide) (by decide) (by decide) (by decide) (by decide) (by decide)] at h3
    exact absurd h3 (by decide)
  · intro h3
    rw [o 10 p (by decide) (by decide) (by decide) (by decide) (by decide) (by decide) (by decide) (by decide) (by decide)] at h3
    exact absurd h3 (by decide)
  · intro h3
    rw [o 10 p (by decide) (by decide) (by decide) (by decide) (by decide) (by decide) (by decide) (by decide) (by decide), o 24 p (by decide) (by decide) (by decide) (by decide) (by decide) (by decide) (by decide) (by decide) (by decide)] at h3
    exact absurd h3 (by decide)
theorem zh_I {τ : zs_T} (hB : zm_B 64 16 4 τ) (h0 : τ 0 0 = 1) (h6 : τ 6 0 = 1) : zr_I 0 τ := by
  obtain ⟨b1, b2, b3, b4, b5, b6⟩ := hB
  have o : ∀ c t, c ≠ 0 → c ≠ 2 → c ≠ 4 → c ≠ 6 → c ≠ 22 → c ≠ 26 → c ≠ 31 → c ≠ 32 → c ≠ 34 → τ c t = 0 := by
    intro c t c0 c2 c4 c6 c22 c26 c31 c32 c34
    rw [b6 c t c0 c2 c4 c6 c22 c26 c31]
    unfold zm_τ0
    rw [if_neg (by omega)]
  have o1 : ∀ t, τ 1 t = 0 := fun t => o 1 t (by decide) (by decide) (by decide) (by decide) (by decide) (by decide) (by decide) (by decide) (by decide)
  have o3 : ∀ t, τ 3 t = 0 := fun t => o 3 t (by decide) (by decide) (by decide) (by decide) (by decide) (by decide) (by decide) (by decide) (by decide)
  have o10 : ∀ t, τ 10 t = 0 := fun t => o 10 t (by decide) (by decide) (by decide) (by decide) (by decide) (by decide) (by decide) (by decide) (by decide)
  have o12 : ∀ t, τ 12 t = 0 := fun t => o 12 t (by decide) (by decide) (by decide) (by decide) (by decide) (by decide) (by decide) (by decide) (by decide)
  have o16 : ∀ t, τ 16 t = 0 := fun t => o 16 t (by decide) (by decide) (by decide) (by decide) (by decide) (by decide) (by decide) (by decide) (by decide)
  have o21 : ∀ t, τ 21 t = 0 := fun t => o 21 t (by decide) (by decide) (by decide) (by decide) (by decide) (by decide) (by decide) (by decide) (by decide)
  have o24 : ∀ t, τ 24 t = 0 := fun t => o 24 t (by decide) (by decide) (by decide) (by decide) (by decide) (by decide) (by decide) (by decide) (by decide)
  have o29 : ∀ t, τ 29 t = 0 := fun t => o 29 t (by decide) (by decide) (by decide) (by decide) (by decide) (by decide) (by decide) (by decide) (by decide)
  have o30 : ∀ t, τ 30 t = 0 := fun t => o 30 t (by decide) (by decide) (by decide) (by decide) (by decide) (by decide) (by decide) (by decide) (by decide)
  have e34 : τ 34 0 = 1 := by rw [b6 34 0 (by decide) (by decide) (by decide) (by decide) (by decide) (by decide) (by decide)]; rfl
  have e32 : τ 32 0 = 1 := by rw [b6 32 0 (by decide) (by decide) (by decide) (by decide) (by decide) (by decide) (by decide)]; rfl
  have n0 : ∀ k, τ 0 k = 0 ∨ τ 0 k = 1 := fun k => by
    by_cases hk : k = 0
    · subst hk; exact Or.inr h0
    · exact Or.inl (b5 k hk).1
  have n6 : ∀ k, τ 6 k = 0 ∨ τ 6 k = 1 := fun k => by
    by_cases hk : k = 0
    · subst hk; exact Or.inr h6
    · exact Or.inl (b5 k hk).2
  have hL0 : zr_L τ 0 := ⟨by decide, h0, fun ⟨q, hq, he⟩ => by rw [(b4 q hq).1] at he; exact absurd he (by decide)⟩
  have lt0 : ∀ i, i < 64 → ¬ nI i < 0 := fun i hi => nI_pos (by omega)
  refine ⟨⟨?_, ?_, ?_, ?_, ?_, ?_, ?_, ?_, ?_, ?_, ?_, ?_, ?_, ?_, ?_⟩, fun p hp => ⟨?_, ?_, ?_, ?_, ?_, ?_, ?_, ?_, ?_, ?_, ?_, ?_, ?_, ?_, ?_, ?_, ?_⟩⟩
  · exact fun k _ => Or.inl (o3 k)
  · exact fun k hk => Or.inl (b1 k hk).1
  · exact fun n hn => Or.inl (b1 n hn.1).1
  · exact fun n m hn _ _ hne => absurd (b1 n hn.1).1 hne
  · intro k _ h2
    rcases n0 k with h | h <;> (rw [h] at h2; exact absurd h2 (by decide))
  · exact fun n _ _ => o3 n
  · intro b hb
    by_cases hb0 : b = 0
    · subst hb0
      exact Or.inr ⟨0, b3, hL0, by unfold zr_ev; rw [o1]; decide⟩
    · exact Or.inl (b2 b (by omega) hb)
  · rw [b3]; decide
  · exact fun q hq => Or.inl (b4 q hq).1
  · exact fun p q hp _ _ hne => absurd (b4 p hp).1 hne
  · exact fun p _ => ⟨0, by decide, o29 p, fun j hj => absurd hj (by omega)⟩
  · intro p q i j _ _ h1 _ hi _ _
    rw [o29] at h1
    exact absurd h1 (lt0 i hi)
  · rw [e34]; decide
  · intro k _
    rw [e34]
    rcases n6 k with h | h <;> (rw [h]; decide)
  · exact Or.inl e32
  · rw [o10]; decide
  · exact ⟨0, by decide, o12 p⟩
  · exact ⟨0, 0, by decide, o30 p, by decide, o16 p, fun j hj => absurd hj (by omega), fun h => by rw [o10] at h; exact absurd h (by decide), fun _ => rfl⟩
  · exact fun _ => (b4 p hp).1
  · exact Or.inl (o21 p)
  · exact Or.inl (o24 p)
  · intro h; rw [o10] at h; exact absurd h (by decide)
  · intro h; rw [o10] at h; exact absurd h (by decide)
  · intro h; rw [o10] at h; exact absurd h (by decide)
  · intro h; rw [o10] at h; exact absurd h (by decide)
  · intro h; rw [o10] at h; exact absurd h (by decide)
  · intro h; rw [o10] at h; exact absurd h (by decide)
  · intro h; rw [o10, o21] at h; exact absurd h (by decide)
  · intro n _ _ h; exact absurd (o30 p) h
  · intro h; rw [o10] at h; exact absurd h (by decide)
  · intro h; rw [o10] at h; exact absurd h (by decide)
  · intro h; rw [o10] at h; exact absurd h (by decide)
