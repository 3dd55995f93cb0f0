/-! place 12 -/
def zq_held (τ : zs_T) (n : Nat) : Prop := ∃ q, q < 4 ∧ τ 10 q ≠ 0 ∧ ¬ τ 7 n < τ 14 q ∧ ¬ τ 15 q < τ 6 n
theorem zq_fb0 {τ : zs_T} {n : Nat} (hn : n < 64) (x1 x2 x3 : Int32) : ∀ j, j ≤ 4 → ∀ x5 : Int32, (fb_X4_giveBack_L33 (j + 1) τ x1 x2 x3 (nI n) x5 (nI (4 - j)) = 0 ↔ x5 = 0 ∧ ∀ q, 4 - j ≤ q → q < 4 → ¬ (τ 10 q ≠ 0 ∧ ¬ τ 7 n < τ 14 q ∧ ¬ τ 15 q < τ 6 n)) ∧ ok_X4_giveBack_L33 (j + 1) τ x1 x2 x3 (nI n) x5 (nI (4 - j)) := by
  have hcn : (nI n).toNatClampNeg = n := zq_c (by omega)
  have hvn : vp_in (nI n) 64 := zq_in hn (by decide)
  intro j
  induction j with
  | zero =>
    intro _ x5
    constructor
    · rw [fb_X4_giveBack_L33, if_neg (by decide)]
      exact ⟨fun h => ⟨h, fun q h1 h2 => by omega⟩, fun h => h.1⟩
    · rw [ok_X4_giveBack_L33]
      exact ⟨fun h => absurd h (by decide), fun _ => trivial⟩
  | succ j ih =>
    intro hj x5
    have hci : (nI (4 - (j + 1))).toNatClampNeg = 4 - (j + 1) := zq_c (by omega)
    have hvi : vp_in (nI (4 - (j + 1))) 4 := zq_in (by omega) (by decide)
    have hlt : nI (4 - (j + 1)) < 4 := by rw [show (4 : Int32) = nI 4 from rfl, nI_ltI (by omega) (by omega)]; omega
    have e : nI (4 - (j + 1)) + 1 = nI (4 - j) := by rw [nI_1]; congr 1; omega
    obtain ⟨ih0, ok0⟩ := ih (by omega) 0
    obtain ⟨ih1, ok1⟩ := ih (by omega) 1
    have all : ∀ (R : Nat → Prop), (∀ q, 4 - (j + 1) ≤ q → q < 4 → R q) ↔ (R (4 - (j + 1)) ∧ ∀ q, 4 - j ≤ q → q < 4 → R q) := by
      intro R
      constructor
      · intro h; exact ⟨h _ (by omega) (by omega), fun q h1 h2 => h q (by omega) h2⟩
      · rintro ⟨h1, h2⟩ q h3 h4
        by_cases hq : q = 4 - (j + 1)
        · rw [hq]; exact h1
        · exact h2 q (by omega) h4
    constructor
    · rw [all, fb_X4_giveBack_L33, if_pos hlt, hci, hcn, e]
      by_cases h5 : x5 = 0
      · rw [if_pos h5]
        by_cases h10 : τ 10 (4 - (j + 1)) = 0
        · rw [if_pos h10, ih0]
          exact ⟨fun h => ⟨h5, fun z => z.1 h10, h.2⟩, fun h => ⟨rfl, h.2.2⟩⟩
        · rw [if_neg h10]
          by_cases h7 : τ 7 n < τ 14 (4 - (j + 1))
          · rw [if_pos h7, ih0]
            exact ⟨fun h => ⟨h5, fun z => z.2.1 h7, h.2⟩, fun h => ⟨rfl, h.2.2⟩⟩
          · rw [if_neg h7]
            by_cases h6 : τ 15 (4 - (j + 1)) < τ 6 n
            · rw [if_pos h6, ih0]
              exact ⟨fun h => ⟨h5, fun z => z.2.2 h6, h.2⟩, fun h => ⟨rfl, h.2.2⟩⟩
            · rw [if_neg h6, ih1]
              exact ⟨fun h => absurd h.1 (by decide), fun h => absurd ⟨h10, h7, h6⟩ h.2.1⟩
      · rw [if_neg h5, ih1]
        exact ⟨fun h => absurd h.1 (by decide), fun h => absurd h.1 h5⟩
    · rw [ok_X4_giveBack_L33]
      simp only [hci, hcn, e]
      have hvi' : vp_in (nI (3 - j)) 4 := zq_in (by omega) (by decide)
      simp [hvi', hvn, ok0, ok1]
theorem zq_fb {τ : zs_T} {n : Nat} (hn : n < 64) (x1 x2 x3 : Int32) : (fb_X4_giveBack_L33 5 τ x1 x2 x3 (nI n) 0 0 = 0 ↔ ¬ zq_held τ n) ∧ ok_X4_giveBack_L33 5 τ x1 x2 x3 (nI n) 0 0 := by
  obtain ⟨h1, h2⟩ := zq_fb0 (τ := τ) hn x1 x2 x3 4 (by omega) 0
  refine ⟨?_, h2⟩
  rw [show nI (4 - 4) = 0 from rfl] at h1
  rw [h1]
  unfold zq_held
  constructor
  · rintro ⟨-, h⟩ ⟨q, hq, h3⟩; exact h q (by omega) hq h3
  · intro h; exact ⟨rfl, fun q _ hq h3 => h ⟨q, hq, h3⟩⟩
/-- where the loop of place 12 is: j looked at, m kept -/
def zq_gb (τ : zs_T) (p r : Nat) (s : zs_T) (m j : Nat) : Prop :=
  j ≤ r ∧ m ≤ j ∧
  (∀ c, c ≠ 0 → c ≠ 28 → s c = τ c) ∧
  (∀ k, k < 64 * p ∨ 64 * p + 64 ≤ k → s 28 k = τ 28 k) ∧
  (∀ i, j ≤ i → i < r → s 28 (64 * p + i) = τ 28 (64 * p + i)) ∧
  (∀ i, i < m → ∃ i', i' < j ∧ s 28 (64 * p + i) = τ 28 (64 * p + i')) ∧
  (∀ i i', i < m → i' < m → s 28 (64 * p + i) = s 28 (64 * p + i') → i = i') ∧
  (∀ n, n < 64 → s 0 n = τ 0 n ∨ (s 0 n = 0 ∧ τ 0 n = 2 ∧ ¬ zq_held τ n ∧ ∃ i, i < j ∧ τ 28 (64 * p + i) = nI n)) ∧
  (∀ i, i < m → zr_nd (fun n => n < 64 ∧ s 0 n = 2) (s 28 (64 * p + i)))
theorem zq_held_c {τ s : zs_T} {n : Nat} (h : ∀ c, c ≠ 0 → c ≠ 28 → s c = τ c) : zq_held s n ↔ zq_held τ n := by
  unfold zq_held
  rw [h 10 (by decide) (by decide), h 7 (by decide) (by decide), h 14 (by decide) (by decide), h 15 (by decide) (by decide), h 6 (by decide) (by decide)]
theorem zq_gbstep {N p r : Nat} {τ s : zs_T} {m j : Nat} (hG : zr_G N τ) (hp : p < 4) (hr : r ≤ 64) (er : τ 29 p = nI r) (h : zq_gb τ p r s m j) (hj : j < r) : ∃ n, n < 64 ∧ s 28 (64 * p + j) = nI n ∧ τ 28 (64 * p + j) = nI n ∧ τ 0 n = 2 ∧ s 0 n = 2 ∧ (¬ zq_held τ n → zq_gb τ p r (zs_u s 0 n 0) m (j + 1)) ∧ (zq_held τ n → zq_gb τ p r (zs_u s 28 (64 * p + m) (nI n)) (m + 1) (j + 1)) := by
  obtain ⟨h1, h2, h3, h4, h5, h6, h7, h8, h9⟩ := h
  obtain ⟨r', hr', er', hrow⟩ := hG.2.2.2.2.2.2.2.2.2.2.1 p hp
  have := (nI_eq (by omega) (by omega)).mp (er'.symm.trans er)
  subst this
  have g12 := hG.2.2.2.2.2.2.2.2.2.2.2.1
  obtain ⟨n, en, hn, hn2⟩ := hrow j hj
  have inj : ∀ i i', i < r' → i' < r' → τ 28 (64 * p + i) = τ 28 (64 * p + i') → i = i' := fun i i' hi hi' e => (g12 p p i i' hp hp (by rw [er, nI_ltI (by omega) (by omega)]; exact hi) (by rw [er, nI_ltI (by omega) (by omega)]; exact hi') (by omega) (by omega) e).2
  have hs0 : s 0 n = 2 := by
    rcases h8 n hn with h | ⟨-, -, -, i, hi, ei⟩
    · rw [h]; exact hn2
    · have := inj i j (by omega) hj (ei.trans en.symm); omega
  have knen : ∀ i, i < m → s 28 (64 * p + i) ≠ nI n := by
    intro i hi e
    obtain ⟨i', hi', e'⟩ := h6 i hi
    have := inj i' j (by omega) hj (e'.symm.trans (e.trans en.symm)); omega
  refine ⟨n, hn, (h5 j (Nat.le_refl _) hj).trans en, en, hn2, hs0, fun hh => ?_, fun hh => ?_⟩
  · refine ⟨by omega, by omega, fun c c0 c28 => ?_, h4, fun i hi hi' => h5 i (by omega) hi', fun i hi => ?_, h7, fun k hk => ?_, fun i hi => ?_⟩
    · rw [zs_uc c0]; exact h3 c c0 c28
    · obtain ⟨i', hi', e'⟩ := h6 i hi; exact ⟨i', by omega, e'⟩
    · by_cases hkn : k = n
      · subst hkn; exact Or.inr ⟨by simp [zs_u], hn2, hh, j, by omega, en⟩
      · rw [zs_uk hkn]
        rcases h8 k hk with h | ⟨a1, a2, a3, i, hi, ei⟩
        · exact Or.inl h
        · exact Or.inr ⟨a1, a2, a3, i, by omega, ei⟩
    · obtain ⟨k, ek, hk, hk2⟩ := h9 i hi
      have hkn : k ≠ n := fun z => by subst z; exact knen i hi ek
      exact ⟨k, ek, hk, by rw [zs_uk hkn]; exact hk2⟩
  · have r28 : ∀ k, zs_u s 28 (64 * p + m) (nI n) 28 k = if k = 64 * p + m then nI n else s 28 k := fun k => by simp [zs_u]
    have e0 : zs_u s 28 (64 * p + m) (nI n) 0 = s 0 := rfl
    refine ⟨by omega, by omega, fun c c0 c28 => ?_, fun k hk => ?_, fun i hi hi' => ?_, fun i hi => ?_, fun i i' hi hi' e => ?_, fun k hk => ?_, fun i hi => ?_⟩
    · rw [zs_uc c28]; exact h3 c c0 c28
    · rw [r28, if_neg (by omega)]; exact h4 k hk
    · rw [r28, if_neg (by omega)]; exact h5 i (by omega) hi'
    · rw [r28]
      by_cases him : i = m
      · rw [if_pos (by omega)]; exact ⟨j, by omega, en.symm⟩
      · rw [if_neg (by omega)]
        obtain ⟨i', hi', e'⟩ := h6 i (by omega); exact ⟨i', by omega, e'⟩
    · rw [r28, r28] at e
      by_cases him : i = m
      · by_cases him' : i' = m
        · omega
        · rw [if_pos (by omega), if_neg (by omega)] at e
          exact absurd e.symm (knen i' (by omega))
      · by_cases him' : i' = m
        · rw [if_neg (by omega), if_pos (by omega)] at e
          exact absurd e (knen i (by omega))
        · rw [if_neg (by omega), if_neg (by omega)] at e
          exact h7 i i' (by omega) (by omega) e
    · rw [e0]
      rcases h8 k hk with h | ⟨a1, a2, a3, i, hi, ei⟩
      · exact Or.inl h
      · exact Or.inr ⟨a1, a2, a3, i, by omega, ei⟩
    · rw [r28, e0]
      by_cases him : i = m
      · rw [if_pos (by omega)]; exact ⟨n, rfl, hn, hs0⟩
      · rw [if_neg (by omega)]; exact h9 i (by omega)
theorem zq_gbloop {N p r : Nat} {τ : zs_T} (hG : zr_G N τ) (hp : p < 4) (hr : r ≤ 64) (er : τ 29 p = nI r) : ∀ f s m j, zq_gb τ p r s m j → r < f + j → ∃ s' m', zq_gb τ p r s' m' r ∧ (fn_X4_giveBack_L4 f s (nI p) (nI m) (nI j)).1 = zs_u s' 29 p (nI m') ∧ ok_X4_giveBack_L4 f s (nI p) (nI m) (nI j) := by
  have hc : (nI p).toNatClampNeg = p := zq_c (by omega)
  have hv : vp_in (nI p) 4 := zq_in hp (by decide)
  intro f
  induction f with
  | zero => intro s m j h hf; have := h.1; omega
  | succ f ih =>
    intro s m j h hf
    have e29 : s 29 p = nI r := by rw [h.2.2.1 29 (by decide) (by decide)]; exact er
    have hjr := h.1
    have hmj := h.2.1
    by_cases hj : j < r
    · obtain ⟨n, hn, en, en', hn2, hs2, hA, hB⟩ := zq_gbstep hG hp hr er h hj
      have hcn : (nI n).toNatClampNeg = n := zq_c (by omega)
      have hvn : vp_in (nI n) 64 := zq_in hn (by decide)
      have hlt : nI j < nI r := by rw [nI_ltI (by omega) (by omega)]; exact hj
      have e64 : ∀ k, 64 * nI p + nI k = nI (64 * p + k) := fun k => by rw [show (64 : Int32) = nI 64 from rfl, pk_mul, nI_add]
      have hcj : (nI (64 * p + j)).toNatClampNeg = 64 * p + j := zq_c (by omega)
      have hcm : (nI (64 * p + m)).toNatClampNeg = 64 * p + m := zq_c (by omega)
      have hvj : vp_in (nI (64 * p + j)) 256 := zq_in (by omega) (by decide)
      have hvm : vp_in (nI (64 * p + m)) 256 := zq_in (by omega) (by decide)
      obtain ⟨hfb, hokb⟩ := zq_fb (τ := s) hn (nI p) (nI m) (nI j)
      rw [zq_held_c h.2.2.1] at hfb
      by_cases hh : zq_held τ n
      · have hne : ¬ fb_X4_giveBack_L33 5 s (nI p) (nI m) (nI j) (nI n) 0 0 = 0 := fun z => hfb.mp z hh
        obtain ⟨s', m', a1, a2, a3⟩ := ih _ _ _ (hB hh) (by omega)
        refine ⟨s', m', a1, ?_, ?_⟩
        · rw [fn_X4_giveBack_L4, hc, e29, if_pos hlt, e64, hcj, en, if_neg hne, e64, hcm, nI_1, nI_1]
          exact a2
        · rw [ok_X4_giveBack_L4]
          simp only [hc, e29, e64, hcj, hcm, en, nI_1]
          simp [hv, hlt, hvj, hokb, hne, hvm, a3]
      · have heq : fb_X4_giveBack_L33 5 s (nI p) (nI m) (nI j) (nI n) 0 0 = 0 := hfb.mpr hh
        obtain ⟨s', m', a1, a2, a3⟩ := ih _ _ _ (hA hh) (by omega)
        refine ⟨s', m', a1, ?_, ?_⟩
        · rw [fn_X4_giveBack_L4, hc, e29, if_pos hlt, e64, hcj, en, if_pos heq, hcn, nI_1]
          exact a2
        · rw [ok_X4_giveBack_L4]
          simp only [hc, e29, e64, hcj, hcm, en, nI_1]
          simp [hv, hlt, hvj, hokb, heq, hcn, hvn, a3]
    · have : j = r := by omega
      subst this
      have hnl : ¬ nI j < nI j := by rw [nI_ltI (by omega) (by omega)]; omega
      refine ⟨s, m, h, ?_, ?_⟩
      · rw [fn_X4_giveBack_L4, hc, e29, if_neg hnl]
      · rw [ok_X4_giveBack_L4]
        simp only [hc, e29]
        simp [hv, hnl]
theorem zq_gb0 {τ : zs_T} {p r : Nat} : zq_gb τ p r τ 0 0 := ⟨by omega, by omega, fun _ _ _ => rfl, fun _ _ => rfl, fun _ _ _ => rfl, fun i hi => by omega, fun i i' hi => by omega, fun n _ => Or.inl rfl, fun i hi => by omega⟩
theorem zq_gbG {N p r m : Nat} {τ s t2 : zs_T} (hG : zr_G N τ) (hp : p < 4) (hr : r ≤ 64) (er : τ 29 p = nI r) (h : zq_gb τ p r s m r) (et : t2 = zs_u s 29 p (nI m)) : zr_G N t2 ∧ (∀ q, q < 4 → zr_K τ t2 q) ∧ (∀ c, c ≠ 0 → c ≠ 28 → c ≠ 29 → t2 c = τ c) := by
  obtain ⟨h1, h2, h3, h4, h5, h6, h7, h8, h9⟩ := h
  obtain ⟨g1, g2, g3, g4, g5, g6, g7, g8, g9, g10, g11, g12, g13, g14, g15⟩ := id hG
  obtain ⟨r', hr', er', hrow⟩ := g11 p hp
  have := (nI_eq (by omega) (by omega)).mp (er'.symm.trans er)
  subst this
  have oth : ∀ c, c ≠ 0 → c ≠ 28 → c ≠ 29 → t2 c = τ c := fun c a b d => by rw [et, zs_uc d]; exact h3 c a b
  have e0 : t2 0 = s 0 := by rw [et]; rfl
  have e28 : t2 28 = s 28 := by rw [et]; rfl
  have r29 : ∀ q, t2 29 q = if q = p then nI m else τ 29 q := fun q => by
    rw [et]
    by_cases hq : q = p
    · subst hq; simp [zs_u]
    · rw [if_neg hq, zs_uk hq]; rw [h3 29 (by decide) (by decide)]
  have s1 : ∀ n, n < 64 → (s 0 n = 1 ↔ τ 0 n = 1) := by
    intro n hn
    rcases h8 n hn with h | ⟨a, b, -⟩
    · rw [h]
    · rw [a, b]; exact ⟨fun h => absurd h (by decide), fun h => absurd h (by decide)⟩
  have eL : zr_L t2 = zr_L τ := by
    funext n; unfold zr_L zr_O
    rw [e0, oth 22 (by decide) (by decide) (by decide)]
    apply propext
    constructor
    · rintro ⟨a, b, c⟩; exact ⟨a, (s1 n a).mp b, c⟩
    · rintro ⟨a, b, c⟩; exact ⟨a, (s1 n a).mpr b, c⟩
  have inP : ∀ i, i < 64 → nI i < t2 29 p → i < m := by
    intro i hi h
    rw [r29, if_pos rfl, nI_ltI (by omega) (by omega)] at h
    exact h
  refine ⟨?_, fun q hq => ?_, oth⟩
  · unfold zr_G
    rw [eL, oth 1 (by decide) (by decide) (by decide), oth 2 (by decide) (by decide) (by decide), oth 3 (by decide) (by decide) (by decide), oth 6 (by decide) (by decide) (by decide), oth 22 (by decide) (by decide) (by decide), oth 31 (by decide) (by decide) (by decide), oth 32 (by decide) (by decide) (by decide), oth 34 (by decide) (by decide) (by decide), e0, e28]
    refine ⟨g1, g2, g3, g4, fun k hk h2' => ?_, g6, g7, g8, fun q hq => ?_, g10, fun q hq => ?_, fun q1 q2 i j hq1 hq2 hi hj hi64 hj64 e => ?_, g13, g14, g15⟩
    · rcases h8 k hk with h | ⟨a, -⟩
      · rw [h] at h2'; exact g5 k hk h2'
      · rw [a] at h2'; exact absurd h2' (by decide)
    · exact (g9 q hq).imp (fun n hn => ⟨hn.1, (s1 n hn.1).mpr hn.2⟩)
    · by_cases hqp : q = p
      · subst hqp
        exact ⟨m, by omega, by rw [r29, if_pos rfl], fun j hj => h9 j hj⟩
      · obtain ⟨k, hk, ek, hrk⟩ := g11 q hq
        refine ⟨k, hk, by rw [r29, if_neg hqp]; exact ek, fun j hj => ?_⟩
        rw [h4 (64 * q + j) (by omega)]
        obtain ⟨n, en, hn, hn2⟩ := hrk j hj
        refine ⟨n, en, hn, ?_⟩
        rcases h8 n hn with h | ⟨-, -, -, i, hi, ei⟩
        · rw [h]; exact hn2
        · have := g12 q p j i hq hp (by rw [ek, nI_ltI (by omega) (by omega)]; exact hj) (by rw [er, nI_ltI (by omega) (by omega)]; exact hi) (by omega) (by omega) (en.trans ei.symm)
          exact absurd this.1 hqp
    · have src : ∀ q i, q < 4 → i < 64 → nI i < t2 29 q → ∃ i', i' < 64 ∧ nI i' < τ 29 q ∧ s 28 (64 * q + i) = τ 28 (64 * q + i') ∧ (q ≠ p → i' = i) := by
        intro q i hq hi h
        by_cases hqp : q = p
        · subst hqp
          obtain ⟨i', hi', e'⟩ := h6 i (inP i hi h)
          exact ⟨i', by omega, by rw [er, nI_ltI (by omega) (by omega)]; exact hi', e', fun z => absurd rfl z⟩
        · rw [r29, if_neg hqp] at h
          exact ⟨i, hi, h, h4 (64 * q + i) (by omega), fun _ => rfl⟩
      obtain ⟨i', hi', hi2, ei, fi⟩ := src q1 i hq1 hi64 hi
      obtain ⟨j', hj', hj2, ej, fj⟩ := src q2 j hq2 hj64 hj
      have := g12 q1 q2 i' j' hq1 hq2 hi2 hj2 hi' hj' (ei.symm.trans (e.trans ej))
      obtain ⟨e1, e2⟩ := this
      subst e1
      refine ⟨rfl, ?_⟩
      by_cases hqp : q1 = p
      · subst hqp
        exact h7 i j (inP i hi64 hi) (inP j hj64 hj) e
      · rw [← fi hqp, ← fj hqp]; exact e2
  · refine ⟨fun n hn => Or.inl (by rw [eL]; exact hn), fun n hn h2' ha hl hb => ?_, fun n _ _ => ⟨by rw [oth 6 (by decide) (by decide) (by decide)], by rw [oth 1 (by decide) (by decide) (by decide)]⟩, fun n _ _ h3' _ => ⟨by rw [oth 3 (by decide) (by decide) (by decide)]; exact h3', by rw [oth 2 (by decide) (by decide) (by decide)]⟩, fun n _ _ => ⟨by rw [oth 2 (by decide) (by decide) (by decide)], by rw [oth 3 (by decide) (by decide) (by decide)]⟩, by rw [oth 34 (by decide) (by decide) (by decide)]; exact Int32.le_refl _⟩
    refine ⟨?_, by rw [oth 7 (by decide) (by decide) (by decide)]⟩
    rw [e0]
    rcases h8 n hn with h | ⟨-, -, hnh, -⟩
    · rw [h]; exact h2'
    · exact absurd ⟨q, hq, ha, zs_nlt.mpr hl, zs_nlt.mpr hb⟩ hnh
theorem zi_12 {N p : Nat} {τ : zs_T} (hI : zr_I N τ) (hp : p < 4) (h : τ 10 p = 12) : zr_I (N + 1) (fn_X4_oneStep τ (nI p)).1 ∧ ok_X4_oneStep τ (nI p) := by
  have hc : (nI p).toNatClampNeg = p := zq_c (by omega)
  have hv : vp_in (nI p) 4 := zq_in hp (by decide)
  obtain ⟨d, b, hB, -, -⟩ := (hI.2 p hp).B
  obtain ⟨r, hr, er, -⟩ := hI.1.2.2.2.2.2.2.2.2.2.2.1 p hp
  obtain ⟨s', m', hgb, e2, hok2⟩ := zq_gbloop hI.1 hp hr er 65 τ 0 0 zq_gb0 (by omega)
  have egb : (fn_X4_giveBack τ (nI p)).1 = zs_u s' 29 p (nI m') := e2
  obtain ⟨hG', hK, oth⟩ := zq_gbG hI.1 hp hr er hgb egb
  have eif : fn_X4_oneStep τ (nI p) = ((fn_X4_ends ((fn_X4_giveBack τ (nI p)).1) (nI p) (((fn_X4_giveBack τ (nI p)).1) 25 p)).1, 0) := by
    unfold fn_X4_oneStep
    rw [hc, if_neg (by rw [h]; decide), if_neg (by rw [h]; decide), if_neg (by rw [h]; decide), if_neg (by rw [h]; decide), if_neg (by rw [h]; decide), if_neg (by rw [h]; decide), if_neg (by rw [h]; decide), if_neg (by rw [h]; decide), if_neg (by rw [h]; decide), if_neg (by rw [h]; decide), if_neg (by rw [h]; decide), if_pos h]
  have o := fun c (a : c ≠ 0) (b : c ≠ 28) (d : c ≠ 29) => oth c a b d
  have hB2 : zr_B (fn_X4_giveBack τ (nI p)).1 p d b := zr_B_congr hB (o 1 (by decide) (by decide) (by decide)) (by rw [o 12 (by decide) (by decide) (by decide)]) (by rw [o 30 (by decide) (by decide) (by decide)]) (by rw [o 16 (by decide) (by decide) (by decide)]) (fun _ _ => by rw [o 27 (by decide) (by decide) (by decide)]) (by rw [o 21 (by decide) (by decide) (by decide)]; exact hB.2.2.1) (by rw [o 24 (by decide) (by decide) (by decide)]; exact hB.2.2.2.1) (by rw [o 22 (by decide) (by decide) (by decide)])
  have hQ : ∀ q, zr_Q τ (fn_X4_giveBack τ (nI p)).1 q := fun q => ⟨by rw [o 10 (by decide) (by decide) (by decide)], by rw [o 12 (by decide) (by decide) (by decide)], by rw [o 14 (by decide) (by decide) (by decide)], by rw [o 15 (by decide) (by decide) (by decide)], by rw [o 16 (by decide) (by decide) (by decide)], by rw [o 17 (by decide) (by decide) (by decide)], by rw [o 18 (by decide) (by decide) (by decide)], by rw [o 19 (by decide) (by decide) (by decide)], by rw [o 20 (by decide) (by decide) (by decide)], by rw [o 21 (by decide) (by decide) (by decide)], by rw [o 22 (by decide) (by decide) (by decide)], by rw [o 23 (by decide) (by decide) (by decide)], by rw [o 24 (by decide) (by decide) (by decide)], by rw [o 30 (by decide) (by decide) (by decide)], fun j _ => by rw [o 27 (by decide) (by decide) (by decide)]⟩
  have hends := fun v => zr_ends hG' (fun q hq _ => zr_P_keep hI.1 (hK q hq) (hQ q) hq (hI.2 q hq)) hB2 hp v
  rw [eif]
  refine ⟨⟨zr_G_mono (by omega) (hends _).1.1, (hends _).1.2⟩, ?_⟩
  have hokg : ok_X4_giveBack τ (nI p) := hok2
  unfold ok_X4_oneStep
  simp [hc, h, hv, hokg, (hends _).2]
/-- EVERY STEP KEEPS THE INVARIANT, and no instruction of it is barred -/
theorem zi_step {N p : Nat} {τ : zs_T} (hI : zr_I N τ) (hN : N < 1000000) (hp : p < 4) : zr_I (N + 1) (fn_X4_oneStep τ (nI p)).1 ∧ ok_X4_oneStep τ (nI p) := by
  have hc : (nI p).toNatClampNeg = p := zq_c (by omega)
  have hv : vp_in (nI p) 4 := zq_in hp (by decide)
  obtain ⟨h1, h2⟩ := (hI.2 p hp).1
  have key : ∀ k : Nat, k < 14 → (τ 10 p).toInt = k → τ 10 p = nI k := fun k hk e => Int32.toInt_inj.mp (by rw [e, nI_toInt (by omega)])
  obtain ⟨k, hk⟩ : ∃ k : Nat, (τ 10 p).toInt = k := ⟨(τ 10 p).toInt.toNat, by omega⟩
  have hk14 : k < 14 := by omega
  have e := key k hk14 hk
  rcases (show k = 0 ∨ k = 1 ∨ k = 2 ∨ k = 3 ∨ k = 4 ∨ k = 5 ∨ k = 6 ∨ k = 7 ∨ k = 8 ∨ k = 9 ∨ k = 10 ∨ k = 11 ∨ k = 12 ∨ k = 13 by omega) with rfl | rfl | rfl | rfl | rfl | rfl | rfl | rfl | rfl | rfl | rfl | rfl | rfl | rfl
  · have e : τ 10 p = 0 := e
    constructor
    · unfold fn_X4_oneStep
      rw [hc, if_neg (by rw [e]; decide), if_neg (by rw [e]; decide), if_neg (by rw [e]; decide), if_neg (by rw [e]; decide), if_neg (by rw [e]; decide), if_neg (by rw [e]; decide), if_neg (by rw [e]; decide), if_neg (by rw [e]; decide), if_neg (by rw [e]; decide), if_neg (by rw [e]; decide), if_neg (by rw [e]; decide), if_neg (by rw [e]; decide), if_neg (by rw [e]; decide)]
      exact ⟨zr_G_mono (by omega) hI.1, hI.2⟩
    · unfold ok_X4_oneStep
      simp [hc, hv, e]
  · exact zi_1 hI hp e
  · exact zi_2 hI hp e
  · exact zi_3 hI hp e
  · exact zi_4 hI hp e
  · exact zi_5 hI hp e
  · exact zi_6 hI hN hp e
  · exact zi_7 hI hp e
  · exact zi_8 hI hp e
  · exact zi_9 hI hp e
  · exact zi_10 hI hp e
  · exact zi_11 hI hN hp e
  · exact zi_12 hI hp e
  · exact zi_13 hI hp e
