/-! a marked node is taken out of the list and comes to a row -/
theorem zr_unlink {N p a c r : Nat} {nxt : Int32} {τ t2 : zs_T} (hG : zr_G N τ) (hN : N < 1000000) (hp : p < 4) (haL : zr_L τ a) (hna : τ 2 a = nI c) (hma : τ 3 a = 0) (hc64 : c < 64) (hmc : τ 3 c = 1) (hnc : τ 2 c = nxt) (er : τ 29 p = nI r)
    (r0 : ∀ k, t2 0 k = if k = c then 2 else τ 0 k) (r2 : ∀ k, t2 2 k = if k = a then nxt else τ 2 k) (r3 : ∀ k, t2 3 k = if k = a then 0 else τ 3 k) (r7 : ∀ k, t2 7 k = if k = c then τ 34 0 else τ 7 k) (r28 : ∀ k, t2 28 k = if k = 64 * p + r then nI c else τ 28 k) (r29 : ∀ k, t2 29 k = if k = p then nI (r + 1) else τ 29 k) (r34 : t2 34 0 = τ 34 0 + 1)
    (e1 : t2 1 = τ 1) (e6 : t2 6 = τ 6) (e22 : t2 22 = τ 22) (e31 : t2 31 = τ 31) (e32 : t2 32 = τ 32) : r < 64 ∧ zr_L τ c ∧ zr_G (N + 1) t2 ∧ (∀ q, zr_K τ t2 q) ∧ (∀ m, zr_L t2 m ↔ zr_L τ m ∧ m ≠ c) := by
  obtain ⟨g1, g2, g3, g4, g5, g6, g7, g8, g9, g10, g11, g12, g13, g14, g15⟩ := id hG
  have hcL : zr_L τ c := by
    rcases g3 a haL with h1 | ⟨n, h1, h2⟩
    · rw [hna] at h1; exact absurd h1 (zq_m1 (by omega))
    · rw [hna] at h1
      have := (nI_eq (by omega) (by have := h2.1; omega)).mp h1
      subst this; exact h2
  have hac : a ≠ c := fun q => by subst q; rw [hma] at hmc; exact absurd hmc (by decide)
  have hcm : nI c ≠ -1 := zq_m1 (by omega)
  obtain ⟨r', hr', er', hrow⟩ := g11 p hp
  have hrr : r' ≤ 64 := hr'
  have eL : ∀ m, zr_L t2 m ↔ zr_L τ m ∧ m ≠ c := by
    intro m
    unfold zr_L zr_O
    rw [r0, e22]
    by_cases hmc' : m = c
    · subst hmc'
      rw [if_pos rfl]
      exact ⟨fun h => absurd h.2.1 (by decide), fun h => absurd rfl h.2⟩
    · rw [if_neg hmc']
      exact ⟨fun h => ⟨h, hmc'⟩, fun h => h.1⟩
  -- the row's length
  have hlt : r' < 64 := by
    have := zq_pigeon 64 (r' + 1) (fun i => if i < r' then (τ 28 (64 * p + i)).toNatClampNeg else c) (fun i hi => ?_) (fun i j hi hj e => ?_)
    · omega
    · show (if i < r' then (τ 28 (64 * p + i)).toNatClampNeg else c) < 64
      split
      · rename_i h
        obtain ⟨n, en, hn, -⟩ := hrow i h
        rw [en, zq_c (by omega)]; exact hn
      · exact hc64
    · have e : (if i < r' then (τ 28 (64 * p + i)).toNatClampNeg else c) = (if j < r' then (τ 28 (64 * p + j)).toNatClampNeg else c) := e
      have nec : ∀ k, k < r' → (τ 28 (64 * p + k)).toNatClampNeg ≠ c := by
        intro k hk q
        obtain ⟨n, en, hn, hn2⟩ := hrow k hk
        rw [en, zq_c (by omega)] at q
        subst q
        rw [hcL.2.1] at hn2
        exact absurd hn2 (by decide)
      by_cases hi' : i < r'
      · by_cases hj' : j < r'
        · rw [if_pos hi', if_pos hj'] at e
          obtain ⟨n, en, hn, -⟩ := hrow i hi'
          obtain ⟨m, em, hm, -⟩ := hrow j hj'
          rw [en, em, zq_c (by omega), zq_c (by omega)] at e
          subst e
          exact (g12 p p i j hp hp (by rw [er', nI_ltI (by omega) (by omega)]; exact hi') (by rw [er', nI_ltI (by omega) (by omega)]; exact hj') (by omega) (by omega) (en.trans em.symm)).2
        · rw [if_pos hi', if_neg hj'] at e
          exact absurd e (nec i hi')
      · by_cases hj' : j < r'
        · rw [if_neg hi', if_pos hj'] at e
          exact absurd e.symm (nec j hj')
        · omega
  -- r is read from the row's length
  have hr : nI r = nI r' := er.symm.trans er'
  have hsz : ∀ q k, q < 4 → k < 64 → (nI k < t2 29 q ↔ ∃ s, s ≤ 64 ∧ t2 29 q = nI s ∧ k < s) := by
    intro q k hq hk
    rw [r29]
    by_cases hqp : q = p
    · rw [if_pos hqp]
      rw [show nI (r + 1) = nI (r' + 1) by rw [← nI_1, ← nI_1, hr], nI_ltI (by omega) (by omega)]
      exact ⟨fun h => ⟨r' + 1, by omega, rfl, h⟩, fun ⟨s, hs, es, h⟩ => by rw [(nI_eq (by omega) (by omega)).mp es]; exact h⟩
    · rw [if_neg hqp]
      obtain ⟨s0, hs0, es0, -⟩ := g11 q hq
      rw [es0, nI_ltI (by omega) (by omega)]
      exact ⟨fun h => ⟨s0, hs0, rfl, h⟩, fun ⟨s, hs, es, h⟩ => by rw [(nI_eq (by omega) (by omega)).mp es]; exact h⟩
  sorry
