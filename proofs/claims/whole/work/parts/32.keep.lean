/-! what is kept -/
theorem zr_G_mono {N M : Nat} {τ : zs_T} (hNM : N ≤ M) (h : zr_G N τ) : zr_G M τ := by
  obtain ⟨g1, g2, g3, g4, g5, g6, g7, g8, g9, g10, g11, g12, g13, g14, g15⟩ := h
  exact ⟨g1, g2, g3, g4, g5, g6, g7, g8, g9, g10, g11, g12, ⟨g13.1, by omega⟩, g14, g15⟩
theorem zr_L_congr {τ τ' : zs_T} (e0 : τ' 0 = τ 0) (e22 : τ' 22 = τ 22) : zr_L τ' = zr_L τ := by
  funext n; unfold zr_L zr_O; rw [e0, e22]
theorem zr_G_congr {N : Nat} {τ τ' : zs_T} (h : zr_G N τ) (e0 : τ' 0 = τ 0) (e1 : τ' 1 = τ 1) (e2 : τ' 2 = τ 2) (e3 : τ' 3 = τ 3) (e6 : τ' 6 = τ 6) (e22 : τ' 22 = τ 22) (e28 : τ' 28 = τ 28) (e29 : τ' 29 = τ 29) (e31 : τ' 31 = τ 31) (e32 : τ' 32 = τ 32) (e34 : τ' 34 = τ 34) : zr_G N τ' := by
  unfold zr_G
  rw [zr_L_congr e0 e22, e0, e1, e2, e3, e6, e22, e28, e29, e31, e32, e34]
  exact h
/-- what a step does to the nodes, as process q sees it -/
def zr_K (τ τ' : zs_T) (q : Nat) : Prop :=
  (∀ n, zr_L τ n → zr_L τ' n ∨ (τ' 0 n = 2 ∧ τ 34 0 ≤ τ' 7 n ∧ τ 3 n = 1)) ∧
  (∀ n, n < 64 → τ 0 n = 2 → τ 10 q ≠ 0 → τ 14 q ≤ τ 7 n → τ 6 n ≤ τ 15 q → τ' 0 n = 2 ∧ τ' 7 n = τ 7 n) ∧
  (∀ n, n < 64 → τ 0 n ≠ 0 → τ' 6 n = τ 6 n ∧ τ' 1 n = τ 1 n) ∧
  (∀ n, n < 64 → τ 0 n ≠ 0 → τ 3 n = 1 → ¬ zr_O τ n → τ' 3 n = 1 ∧ τ' 2 n = τ 2 n) ∧
  (∀ n, n < 64 → τ 22 q = nI n → τ' 2 n = τ 2 n ∧ τ' 3 n = τ 3 n) ∧
  τ 34 0 ≤ τ' 34 0
theorem zr_K_of {τ τ' : zs_T} {q : Nat} (e0 : τ' 0 = τ 0) (e1 : τ' 1 = τ 1) (e2 : τ' 2 = τ 2) (e3 : τ' 3 = τ 3) (e6 : τ' 6 = τ 6) (e7 : τ' 7 = τ 7) (e22 : τ' 22 = τ 22) (e34 : τ' 34 = τ 34) : zr_K τ τ' q := by
  refine ⟨fun n h => Or.inl (by rw [zr_L_congr e0 e22]; exact h), fun n _ h _ _ _ => ⟨by rw [e0]; exact h, by rw [e7]⟩, fun n _ _ => ⟨by rw [e6], by rw [e1]⟩, fun n _ _ h _ => ⟨by rw [e3]; exact h, by rw [e2]⟩, fun n _ _ => ⟨by rw [e2], by rw [e3]⟩, by rw [e34]; exact Int32.le_refl _⟩
theorem zr_Pt_keep {τ τ' : zs_T} {q n : Nat} (hK : zr_K τ τ' q) (h : zr_Pt τ q n) (h10 : τ 10 q ≠ 0) (hlow : τ 14 q ≤ τ 34 0) (e14 : τ' 14 q = τ 14 q) (e15 : τ 15 q ≤ τ' 15 q) : zr_Pt τ' q n := by
  obtain ⟨kL, k2, kb, -, -, -⟩ := hK
  obtain ⟨h1, hb⟩ := h
  rcases h1 with h1 | ⟨a, b, c⟩
  · have hs : τ 0 n ≠ 0 := by rw [h1.2.1]; decide
    refine ⟨?_, by rw [(kb n h1.1 hs).1]; exact Int32.le_trans hb e15⟩
    rcases kL n h1 with h2 | ⟨h2, h3, -⟩
    · exact Or.inl h2
    · exact Or.inr ⟨h1.1, h2, by rw [e14]; exact Int32.le_trans hlow h3⟩
  · have hs : τ 0 n ≠ 0 := by rw [b]; decide
    obtain ⟨d1, d2⟩ := k2 n a b h10 c hb
    exact ⟨Or.inr ⟨a, d1, by rw [e14, d2]; exact c⟩, by rw [(kb n a hs).1]; exact Int32.le_trans hb e15⟩
theorem zr_Pt.lt {τ : zs_T} {q n : Nat} (h : zr_Pt τ q n) : n < 64 := by
  rcases h.1 with h1 | h1
  · exact h1.1
  · exact h1.1
theorem zr_Pt.s {τ : zs_T} {q n : Nat} (h : zr_Pt τ q n) : τ 0 n ≠ 0 := by
  rcases h.1 with h1 | h1
  · rw [h1.2.1]; decide
  · rw [h1.2.1]; decide
/-- an unmarked node that is kept stands in the list -/
theorem zr_Pt.L {N : Nat} {τ : zs_T} {q n : Nat} (hG : zr_G N τ) (h : zr_Pt τ q n) (hm : τ 3 n = 0) : zr_L τ n := by
  rcases h.1 with h1 | ⟨a, b, c⟩
  · exact h1
  · have := hG.2.2.2.2.1 n a b
    rw [hm] at this
    exact absurd this (by decide)
theorem zr_Pt.no {N : Nat} {τ : zs_T} {q n : Nat} (hG : zr_G N τ) (h : zr_Pt τ q n) : ¬ zr_O τ n := by
  rcases h.1 with h1 | ⟨a, b, c⟩
  · exact h1.2.2
  · rintro ⟨r, hr, e⟩
    rcases hG.2.2.2.2.2.2.2.2.1 r hr with h2 | ⟨m, hm, hm64, hm1⟩
    · rw [e] at h2; exact zq_m1 (by omega) h2
    · rw [e] at hm
      have := (nI_eq (by omega) (by omega)).mp hm
      subst this
      rw [b] at hm1
      exact absurd hm1 (by decide)
/-- a linked node of even order stays linked -/
theorem zr_D_keep {N : Nat} {τ τ' : zs_T} {q n : Nat} (hG : zr_G N τ) (hK : zr_K τ τ' q) (h : zr_L τ n ∧ zr_ev (τ 1 n)) : zr_L τ' n ∧ zr_ev (τ' 1 n) := by
  obtain ⟨kL, k2, kb, -, -, -⟩ := hK
  have hs : τ 0 n ≠ 0 := by rw [h.1.2.1]; decide
  rw [(kb n h.1.1 hs).2]
  refine ⟨?_, h.2⟩
  rcases kL n h.1 with h2 | ⟨-, -, h3⟩
  · exact h2
  · have := hG.2.2.2.2.2.1 n h.1 h.2
    rw [this] at h3
    exact absurd h3 (by decide)
theorem zr_rf.imp {A B : Nat → Prop} {x : Int32} (h : zr_rf A x) (hi : ∀ n, A n → B n) : zr_rf B x := by
  rcases h with h | ⟨n, e, h⟩
  · exact Or.inl h
  · exact Or.inr ⟨n, e, hi n h⟩
theorem zr_nd.imp {A B : Nat → Prop} {x : Int32} (h : zr_nd A x) (hi : ∀ n, A n → B n) : zr_nd B x := by
  obtain ⟨n, e, h⟩ := h
  exact ⟨n, e, hi n h⟩
/-- the comps of one process are the same -/
def zr_Q (τ τ' : zs_T) (q : Nat) : Prop :=
  τ' 10 q = τ 10 q ∧ τ' 12 q = τ 12 q ∧ τ' 14 q = τ 14 q ∧ τ' 15 q = τ 15 q ∧ τ' 16 q = τ 16 q ∧ τ' 17 q = τ 17 q ∧ τ' 18 q = τ 18 q ∧ τ' 19 q = τ 19 q ∧ τ' 20 q = τ 20 q ∧ τ' 21 q = τ 21 q ∧ τ' 22 q = τ 22 q ∧ τ' 23 q = τ 23 q ∧ τ' 24 q = τ 24 q ∧ τ' 30 q = τ 30 q ∧ ∀ j, j < 16 → τ' 27 (16 * q + j) = τ 27 (16 * q + j)
theorem zr_P_keep {N : Nat} {τ τ' : zs_T} {q : Nat} (hG : zr_G N τ) (hK : zr_K τ τ' q) (hQ : zr_Q τ τ' q) (hq : q < 4) (h : zr_P τ q) : zr_P τ' q := by
  obtain ⟨e10, e12, e14, e15, e16, e17, e18, e19, e20, e21, e22, e23, e24, e30, e27⟩ := hQ
  obtain ⟨p1, p2, ⟨d, b, h1, h2, h3, h4, h5, h6, h7⟩, p4, p5, p6, p7, p8, p9, p10, p11, p12, p13, p14, p15, p16, p17⟩ := h
  have hp0 : ∀ {w : Int}, 2 ≤ w → w ≤ (τ 10 q).toInt → τ 10 q ≠ 0 := fun hw h q0 => by rw [q0] at h; have : (0 : Int32).toInt = 0 := rfl; omega
  have pk : ∀ n, 2 ≤ (τ 10 q).toInt → zr_Pt τ q n → zr_Pt τ' q n := fun n h2 h => zr_Pt_keep hK h (hp0 (by omega) h2) (p7 h2).1 e14 (by rw [e15]; exact Int32.le_refl _)
  have i4 : τ 10 q = 4 → 2 ≤ (τ 10 q).toInt := fun h => by rw [h]; decide
  have i5 : τ 10 q = 5 → 2 ≤ (τ 10 q).toInt := fun h => by rw [h]; decide
  have i6 : τ 10 q = 6 → 2 ≤ (τ 10 q).toInt := fun h => by rw [h]; decide
  have i7 : τ 10 q = 7 → 2 ≤ (τ 10 q).toInt := fun h => by rw [h]; decide
  have i8 : τ 10 q = 8 → 2 ≤ (τ 10 q).toInt := fun h => by rw [h]; decide
  have i10 : τ 10 q = 10 → 2 ≤ (τ 10 q).toInt := fun h => by rw [h]; decide
  have i11 : τ 10 q = 11 → 2 ≤ (τ 10 q).toInt := fun h => by rw [h]; decide
  unfold zr_P
  rw [e10, e12, e14, e15, e16, e17, e18, e19, e20, e21, e22, e23, e24, e30]
  refine ⟨p1, p2, ⟨d, b, h1, h2, h3, h4, fun j hj => by rw [e27 j (by omega)]; exact h5 j hj, h6, h7⟩, p4, p5, p6, fun h => ⟨Int32.le_trans (p7 h).1 hK.2.2.2.2.2, Int32.le_trans (p7 h).2 hK.2.2.2.2.2⟩, fun a b => (p8 a b).imp (fun n h => zr_D_keep hG hK h), fun a b c => (p9 a b c).imp (fun n h => pk n (by omega) h), ?_, ?_, ?_, ?_, ?_, ?_, ?_, ?_⟩
  · intro h
    refine (p10 h).imp (fun n hn => pk n ?_ hn)
    rcases h with h | h | h
    · exact i4 h
    · exact i7 h
    · exact i8 h
  · intro h
    refine ⟨(p11 h).1.imp (fun n hn => pk n ?_ hn), (p11 h).2⟩
    rcases h with h | h | h | h
    · exact i5 h
    · exact i6 h
    · exact i10 h
    · exact i11 h
  · intro h c hc e
    have hh : τ 10 q = 5 ∨ τ 10 q = 6 ∨ τ 10 q = 10 ∨ τ 10 q = 11 := by rcases h with h | h; exact Or.inl h; exact Or.inr (Or.inl h)
    have h2 : 2 ≤ (τ 10 q).toInt := by rcases h with h | h; exact i5 h; exact i6 h
    rcases p12 h c hc e with h3 | h3
    · obtain ⟨c', ec, hp⟩ := (p11 hh).1
      have : c = c' := (nI_eq (by omega) (by have := hp.lt; omega)).mp (e.symm.trans ec)
      subst this
      rcases hp.1 with h4 | ⟨-, -, h5⟩
      · rw [h4.2.1] at h3; exact absurd h3 (by decide)
      · exact Or.inl (hK.2.1 c hc h3 (hp0 (by omega) h2) h5 hp.2).1
    · exact Or.inr (h3.imp (fun n hn => pk n h2 hn))
  · intro h c hc e
    have hh : τ 10 q = 5 ∨ τ 10 q = 6 ∨ τ 10 q = 10 ∨ τ 10 q = 11 := by rcases h with h | h | h; exact Or.inl h.1; exact Or.inr (Or.inl h); exact Or.inr (Or.inr (Or.inr h))
    obtain ⟨c', ec, hp⟩ := (p11 hh).1
    have : c = c' := (nI_eq (by omega) (by have := hp.lt; omega)).mp (e.symm.trans ec)
    subst this
    obtain ⟨m1, m2⟩ := p13 h c hc e
    obtain ⟨n1, n2⟩ := hK.2.2.2.1 c hc hp.s m1 (hp.no hG)
    exact ⟨n1, by rw [n2]; exact m2⟩
  · intro n hn e h0
    rcases hG.2.2.2.2.2.2.2.2.1 q hq with h2 | ⟨m, hm, hm64, hm1⟩
    · rw [e] at h2; exact absurd h2 (zq_m1 (by omega))
    · rw [e] at hm
      have := (nI_eq (by omega) (by omega)).mp hm
      subst this
      rw [(hK.2.2.1 n hn (by rw [hm1]; decide)).2]
      exact p14 n hn e h0
  · intro h
    obtain ⟨n, e, hn, h2, h3⟩ := p15 h
    obtain ⟨k1, k2⟩ := hK.2.2.2.2.1 n hn e
    exact ⟨n, e, hn, by rw [k1]; exact h2, by rw [k2]; exact h3⟩
  · intro h
    exact ⟨(p16 h).1.imp (fun n h => zr_D_keep hG hK h), (p16 h).2⟩
  · intro h c hc e
    obtain ⟨c', ec, hp⟩ := (p11 (Or.inr (Or.inr (Or.inl h)))).1
    have : c = c' := (nI_eq (by omega) (by have := hp.lt; omega)).mp (e.symm.trans ec)
    subst this
    rw [(hK.2.2.1 c hc hp.s).2]
    exact p17 h c hc e
