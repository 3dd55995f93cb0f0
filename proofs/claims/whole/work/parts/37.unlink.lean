/-! a marked node is taken out of the list and comes to a row -/
theorem zr_unlink {N p a c r : Nat} {nxt : Int32} {τ t2 : zs_T} (hG : zr_G N τ) (hN : N < 1000000) (hp : p < 4) (haL : zr_L τ a) (hna : τ 2 a = nI c) (hma : τ 3 a = 0) (hc64 : c < 64) (hmc : τ 3 c = 1) (hnc : τ 2 c = nxt) (er : τ 29 p = nI r) (hr64 : r ≤ 64)
    (r0 : ∀ k, t2 0 k = if k = c then 2 else τ 0 k) (r2 : ∀ k, t2 2 k = if k = a then nxt else τ 2 k) (r3 : ∀ k, t2 3 k = if k = a then 0 else τ 3 k) (r7 : ∀ k, t2 7 k = if k = c then τ 34 0 else τ 7 k) (r28 : ∀ k, t2 28 k = if k = 64 * p + r then nI c else τ 28 k) (r29 : ∀ k, t2 29 k = if k = p then nI (r + 1) else τ 29 k) (r34 : t2 34 0 = τ 34 0 + 1)
    (e1 : t2 1 = τ 1) (e6 : t2 6 = τ 6) (e22 : t2 22 = τ 22) (e31 : t2 31 = τ 31) (e32 : t2 32 = τ 32) : r < 64 ∧ zr_L τ c ∧ zr_G (N + 1) t2 ∧ (∀ q, q < 4 → zr_K τ t2 q) ∧ (∀ m, zr_L t2 m ↔ zr_L τ m ∧ m ≠ c) := by
  obtain ⟨g1, g2, g3, g4, g5, g6, g7, g8, g9, g10, g11, g12, g13, g14, g15⟩ := id hG
  have hcL : zr_L τ c := by
    rcases g3 a haL with h1 | ⟨n, h1, h2⟩
    · rw [hna] at h1; exact absurd h1 (zq_m1 (by omega))
    · rw [hna] at h1
      have := (nI_eq (by omega) (by have := h2.1; omega)).mp h1
      subst this; exact h2
  have hac : a ≠ c := fun q => by subst q; rw [hma] at hmc; exact absurd hmc (by decide)
  have hcm : nI c ≠ -1 := zq_m1 (by omega)
  obtain ⟨r', hr', er', hrow⟩ := g11 p hp
  have := (nI_eq (by omega) (by omega)).mp (er'.symm.trans er)
  subst this
  have eL : ∀ m, zr_L t2 m ↔ zr_L τ m ∧ m ≠ c := by
    intro m
    unfold zr_L zr_O
    rw [r0, e22]
    by_cases hmc' : m = c
    · subst hmc'
      rw [if_pos rfl]
      exact ⟨fun h => absurd h.2.1 (by decide), fun h => absurd rfl h.2⟩
    · rw [if_neg hmc']
      exact ⟨fun h => ⟨h, hmc'⟩, fun h => h.1⟩
  -- the row's length
  have hlt : r' < 64 := by
    have := zq_pigeon 64 (r' + 1) (fun i => if i < r' then (τ 28 (64 * p + i)).toNatClampNeg else c) (fun i hi => ?_) (fun i j hi hj e => ?_)
    · omega
    · show (if i < r' then (τ 28 (64 * p + i)).toNatClampNeg else c) < 64
      split
      · rename_i h
        obtain ⟨n, en, hn, -⟩ := hrow i h
        rw [en, zq_c (by omega)]; exact hn
      · exact hc64
    · have e : (if i < r' then (τ 28 (64 * p + i)).toNatClampNeg else c) = (if j < r' then (τ 28 (64 * p + j)).toNatClampNeg else c) := e
      have nec : ∀ k, k < r' → (τ 28 (64 * p + k)).toNatClampNeg ≠ c := by
        intro k hk q
        obtain ⟨n, en, hn, hn2⟩ := hrow k hk
        rw [en, zq_c (by omega)] at q
        subst q
        rw [hcL.2.1] at hn2
        exact absurd hn2 (by decide)
      by_cases hi' : i < r'
      · by_cases hj' : j < r'
        · rw [if_pos hi', if_pos hj'] at e
          obtain ⟨n, en, hn, -⟩ := hrow i hi'
          obtain ⟨m, em, hm, -⟩ := hrow j hj'
          rw [en, em, zq_c (by omega), zq_c (by omega)] at e
          subst e
          exact (g12 p p i j hp hp (by rw [er', nI_ltI (by omega) (by omega)]; exact hi') (by rw [er', nI_ltI (by omega) (by omega)]; exact hj') (by omega) (by omega) (en.trans em.symm)).2
        · rw [if_pos hi', if_neg hj'] at e
          exact absurd e (nec i hi')
      · by_cases hj' : j < r'
        · rw [if_neg hi', if_pos hj'] at e
          exact absurd e.symm (nec j hj')
        · omega
  have hidx : ∀ q k, k < 64 → 64 * q + k = 64 * p + r' → q = p ∧ k = r' := by intro q k hk h; omega
  have rowne : ∀ q k s, q < 4 → τ 29 q = nI s → s ≤ 64 → k < s → τ 28 (64 * q + k) ≠ nI c := by
    intro q k s hq es hs hk e
    obtain ⟨s0, hs0, es0, hr0⟩ := g11 q hq
    have := (nI_eq (by omega) (by omega)).mp (es0.symm.trans es)
    subst this
    obtain ⟨n, en, hn, hn2⟩ := hr0 k hk
    have := (nI_eq (by omega) (by omega)).mp (en.symm.trans e)
    subst this
    rw [hcL.2.1] at hn2
    exact absurd hn2 (by decide)
  have hera : (τ 34 0 + 1).toInt = (τ 34 0).toInt + 1 := by
    rw [Int32.toInt_add]
    have h1 : (1 : Int32).toInt = 1 := rfl
    rw [h1, Int.bmod_def]
    split <;> omega
  have hle : τ 34 0 ≤ τ 34 0 + 1 := by rw [Int32.le_iff_toInt_le, hera]; omega
  refine ⟨hlt, hcL, ?_, fun q hq4 => ?_, eL⟩
  · refine ⟨?_, ?_, ?_, ?_, ?_, ?_, ?_, by rw [e31]; exact g8, ?_, by rw [e22]; exact g10, ?_, ?_, ?_, ?_, by rw [e32]; exact g15⟩
    · intro k hk
      rw [r3]
      split
      · exact Or.inl rfl
      · exact g1 k hk
    · intro k hk
      rw [r2]
      split
      · rw [← hnc]; exact g2 c hc64
      · exact g2 k hk
    · intro n hn
      have hn := (eL n).mp hn
      rw [r2]
      by_cases hna' : n = a
      · rw [if_pos hna', ← hnc]
        rcases g3 c hcL with h1 | ⟨m, h1, h2⟩
        · exact Or.inl h1
        · refine Or.inr ⟨m, h1, (eL m).mpr ⟨h2, fun q => ?_⟩⟩
          subst q
          exact hac (g4 a m haL hcL (hna.trans h1.symm) (by rw [hna]; exact hcm))
      · rw [if_neg hna']
        rcases g3 n hn.1 with h1 | ⟨m, h1, h2⟩
        · exact Or.inl h1
        · refine Or.inr ⟨m, h1, (eL m).mpr ⟨h2, fun q => ?_⟩⟩
          subst q
          exact hna' (g4 n a hn.1 haL (h1.trans hna.symm) (by rw [h1]; exact hcm))
    · intro n m hn hm e hne
      have hn := (eL n).mp hn
      have hm := (eL m).mp hm
      rw [r2] at e hne
      rw [r2] at e
      by_cases h1 : n = a
      · by_cases h2 : m = a
        · omega
        · rw [if_pos h1, if_neg h2, ← hnc] at e
          rw [if_pos h1, ← hnc] at hne
          exact absurd (g4 c m hcL hm.1 e hne).symm hm.2
      · by_cases h2 : m = a
        · rw [if_neg h1, if_pos h2, ← hnc] at e
          rw [if_neg h1] at hne
          exact absurd (g4 n c hn.1 hcL e hne) hn.2
        · rw [if_neg h1, if_neg h2] at e
          rw [if_neg h1] at hne
          exact g4 n m hn.1 hm.1 e hne
    · intro k hk h2
      rw [r0] at h2
      rw [r3]
      by_cases hkc : k = c
      · rw [if_neg (fun q => hac (q.symm.trans hkc)), hkc]; exact hmc
      · rw [if_neg hkc] at h2
        rw [if_neg (fun q => by rw [q, haL.2.1] at h2; exact absurd h2 (by decide))]
        exact g5 k hk h2
    · intro n hn hev
      have hn := (eL n).mp hn
      rw [r3]
      rw [e1] at hev
      split
      · rfl
      · exact g6 n hn.1 hev
    · intro b hb
      rw [e31, e1]
      refine (g7 b hb).imp (fun n hn => ⟨(eL n).mpr ⟨hn.1, fun q => ?_⟩, hn.2⟩)
      subst q
      have := g6 n hn.1 hn.2
      rw [hmc] at this
      exact absurd this (by decide)
    · intro q hq
      rw [e22]
      rcases g9 q hq with h1 | ⟨n, h1, h2, h3⟩
      · exact Or.inl h1
      · refine Or.inr ⟨n, h1, h2, ?_⟩
        rw [r0, if_neg (fun z => by subst z; exact hcL.2.2 ⟨q, hq, h1⟩)]
        exact h3
    · intro q hq
      by_cases hqp : q = p
      · subst hqp
        refine ⟨r' + 1, by omega, by rw [r29, if_pos rfl], fun j hj => ?_⟩
        rw [r28]
        by_cases hj' : j = r'
        · subst hj'
          rw [if_pos rfl]
          exact ⟨c, rfl, hc64, by rw [r0, if_pos rfl]⟩
        · rw [if_neg (by omega)]
          refine (hrow j (by omega)).imp (fun n hn => ⟨hn.1, ?_⟩)
          rw [r0]
          split
          · rfl
          · exact hn.2
      · obtain ⟨s, hs, es, hr0⟩ := g11 q hq
        refine ⟨s, hs, by rw [r29, if_neg hqp]; exact es, fun j hj => ?_⟩
        rw [r28, if_neg (fun z => hqp (hidx q j (by omega) z).1)]
        refine (hr0 j hj).imp (fun n hn => ⟨hn.1, ?_⟩)
        rw [r0]
        split
        · rfl
        · exact hn.2
    · intro q1 q2 i j h1 h2 hi hj hi64 hj64 e
      have nx : ∀ q k, q < 4 → k < 64 → nI k < t2 29 q → ¬ (q = p ∧ k = r') → nI k < τ 29 q := by
        intro q k hq hk h hn
        rw [r29] at h
        by_cases hqp : q = p
        · rw [if_pos hqp, nI_ltI (by omega) (by omega)] at h
          rw [hqp, er, nI_ltI (by omega) (by omega)]
          have : k ≠ r' := fun z => hn ⟨hqp, z⟩
          omega
        · rw [if_neg hqp] at h; exact h
      have ne28 : ∀ q k, q < 4 → k < 64 → nI k < t2 29 q → ¬ (q = p ∧ k = r') → τ 28 (64 * q + k) ≠ nI c := by
        intro q k hq hk h hn
        have h3 := nx q k hq hk h hn
        obtain ⟨s, hs, es, -⟩ := g11 q hq
        rw [es, nI_ltI (by omega) (by omega)] at h3
        exact rowne q k s hq es hs h3
      rw [r28, r28] at e
      by_cases ha1 : q1 = p ∧ i = r'
      · by_cases ha2 : q2 = p ∧ j = r'
        · omega
        · rw [if_pos (by omega), if_neg (fun z => ha2 (hidx q2 j hj64 z))] at e
          exact absurd e.symm (ne28 q2 j h2 hj64 hj ha2)
      · by_cases ha2 : q2 = p ∧ j = r'
        · rw [if_neg (fun z => ha1 (hidx q1 i hi64 z)), if_pos (by omega)] at e
          exact absurd e (ne28 q1 i h1 hi64 hi ha1)
        · rw [if_neg (fun z => ha1 (hidx q1 i hi64 z)), if_neg (fun z => ha2 (hidx q2 j hj64 z))] at e
          exact g12 q1 q2 i j h1 h2 (nx q1 i h1 hi64 hi ha1) (nx q2 j h2 hj64 hj ha2) hi64 hj64 e
    · rw [r34, hera]
      omega
    · intro k hk
      rw [e6, r34]
      exact Int32.le_trans (g14 k hk) hle
  · refine ⟨fun n hn => ?_, fun n hn h2 _ _ _ => ?_, fun n _ _ => ⟨by rw [e6], by rw [e1]⟩, fun n hn _ h3 _ => ?_, fun n hn ho => ?_, by rw [r34]; exact hle⟩
    · by_cases hnc' : n = c
      · subst hnc'
        exact Or.inr ⟨by rw [r0, if_pos rfl], by rw [r7, if_pos rfl]; exact Int32.le_refl _, hmc⟩
      · exact Or.inl ((eL n).mpr ⟨hn, hnc'⟩)
    · have hnc' : n ≠ c := fun q => by subst q; rw [hcL.2.1] at h2; exact absurd h2 (by decide)
      exact ⟨by rw [r0, if_neg hnc']; exact h2, by rw [r7, if_neg hnc']⟩
    · have hna' : n ≠ a := fun q => by subst q; rw [hma] at h3; exact absurd h3 (by decide)
      exact ⟨by rw [r3, if_neg hna']; exact h3, by rw [r2, if_neg hna']⟩
    · by_cases hna' : n = a
      · subst hna'
        exact absurd ⟨q, hq4, ho⟩ haL.2.2
      · exact ⟨by rw [r2, if_neg hna'], by rw [r3, if_neg hna']⟩
