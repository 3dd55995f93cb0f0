theorem zd_cbr0 {s : zs_T} {n : Nat} : ∀ j, j ≤ 4 → (fr_X3_canBeReached_L2 (j + 1) s n (nI (4 - j)) = 0 ↔ ∀ q, 4 - j ≤ q → q < 4 → ¬ (s 10 q ≠ 0 ∧ ¬ s 7 n < s 14 q ∧ ¬ s 15 q < s 6 n)) ∧ ok_X3_canBeReached_L2 (j + 1) s n (nI (4 - j)) := by
  intro j
  induction j with
  | zero =>
    intro _
    constructor
    · rw [fr_X3_canBeReached_L2, if_neg (by decide)]
      exact ⟨fun _ q h1 h2 => by omega, fun _ => rfl⟩
    · rw [ok_X3_canBeReached_L2]
      exact ⟨fun h => absurd h (by decide), fun _ => trivial⟩
  | succ j ih =>
    intro hj
    have hci : (nI (4 - (j + 1))).toNatClampNeg = 4 - (j + 1) := zq_c (by omega)
    have hlt : nI (4 - (j + 1)) < 4 := by rw [show (4 : Int32) = nI 4 from rfl, nI_ltI (by omega) (by omega)]; omega
    have e : nI (4 - (j + 1)) + 1 = nI (4 - j) := by rw [nI_1]; congr 1; omega
    obtain ⟨ih0, ok0⟩ := ih (by omega)
    have all : ∀ (R : Nat → Prop), (∀ q, 4 - (j + 1) ≤ q → q < 4 → R q) ↔ (R (4 - (j + 1)) ∧ ∀ q, 4 - j ≤ q → q < 4 → R q) := by
      intro R
      constructor
      · intro h; exact ⟨h _ (by omega) (by omega), fun q h1 h2 => h q (by omega) h2⟩
      · rintro ⟨h1, h2⟩ q h3 h4
        by_cases hq : q = 4 - (j + 1)
        · rw [hq]; exact h1
        · exact h2 q (by omega) h4
    constructor
    · rw [all, fr_X3_canBeReached_L2, if_pos hlt, hci, e]
      by_cases h10 : s 10 (4 - (j + 1)) = 0
      · rw [if_pos h10, ih0]
        exact ⟨fun h => ⟨fun z => z.1 h10, h⟩, fun h => h.2⟩
      · rw [if_neg h10]
        by_cases h7 : s 7 n < s 14 (4 - (j + 1))
        · rw [if_pos h7, ih0]
          exact ⟨fun h => ⟨fun z => z.2.1 h7, h⟩, fun h => h.2⟩
        · rw [if_neg h7]
          by_cases h6 : s 15 (4 - (j + 1)) < s 6 n
          · rw [if_pos h6, ih0]
            exact ⟨fun h => ⟨fun z => z.2.2 h6, h⟩, fun h => h.2⟩
          · rw [if_neg h6]
            exact ⟨fun h => absurd h (by decide), fun h => absurd ⟨h10, h7, h6⟩ h.1⟩
    · rw [ok_X3_canBeReached_L2]
      simp only [hci, e]
      have hvi' : vp_in (nI (3 - j)) 4 := zq_in (by omega) (by decide)
      simp [hvi', ok0]
theorem zd_cbr {s : zs_T} {n : Nat} : (fr_X3_canBeReached s n = 0 ↔ ¬ zq_held s n) ∧ ok_X3_canBeReached s n := by
  obtain ⟨h1, h2⟩ := zd_cbr0 (s := s) (n := n) 4 (by omega)
  refine ⟨?_, h2⟩
  show fr_X3_canBeReached_L2 5 s n 0 = 0 ↔ _
  rw [show nI (4 - 4) = 0 from rfl] at h1
  rw [h1]
  unfold zq_held
  constructor
  · rintro h ⟨q, hq, h3⟩; exact h q (by omega) hq h3
  · intro h q _ hq h3; exact h ⟨q, hq, h3⟩
/-- both loops of place 12 side by side -/
def zd_gc (σ τ : zs_T) (p r : Nat) (sc sm : zs_T) (m j : Nat) : Prop :=
  zq_gb τ p r sm m j ∧ (∀ c k, c < 8 → k < 64 → sc c k = sm c k) ∧ (∀ c, 8 ≤ c → c ≠ 40 + (4 + p) → sc c = σ c) ∧ (∀ i, (i < m ∨ (j ≤ i ∧ i < r)) → sc (40 + (4 + p)) i = sm 28 (64 * p + i))
theorem zd_gcloop {N p r : Nat} {σ τ : zs_T} (hE : zr_E σ τ) (hG : zr_G N τ) (hp : p < 4) (hr : r ≤ 64) (er : τ 29 p = nI r) : ∀ f sc sm m j, zd_gc σ τ p r sc sm m j → r < f + j → ∃ sc' sm' m', zd_gc σ τ p r sc' sm' m' r ∧ (fn_X4_giveBack_L4 f sm (nI p) (nI m) (nI j)).1 = zs_u sm' 29 p (nI m') ∧ (fn_X3_giveBack_L4 f sc p (nI m) (nI j)).1 = (fn_X3_end (zs_u sc' 30 (4 + p) (nI m')) p (σ 25 p)).1 ∧ ok_X3_giveBack_L4 f sc p (nI m) (nI j) := by
  have hc : (nI p).toNatClampNeg = p := zq_c (by omega)
  obtain ⟨⟨en, eb, ⟨e32, e33, e34⟩, ep, est, erow⟩, e1⟩ := id hE
  obtain ⟨p10, p11, p12, p13, p14, p15, p16, p21, p22, p24, p26, p30, p29⟩ := ep p hp
  have hE1 := hE.1
  intro f
  induction f with
  | zero => intro sc sm m j h hf; have := h.1.1; omega
  | succ f ih =>
    intro sc sm m j h hf
    obtain ⟨hgb, hn, ho, hrow⟩ := id h
    have e29 : sm 29 p = nI r := by rw [hgb.2.2.1 29 (by decide) (by decide)]; exact er
    have s30 : sc 30 (4 + p) = nI r := by rw [ho 30 (by decide) (by omega), p29]; exact er
    have hjr := hgb.1
    have hmj := hgb.2.1
    have hlen : zc_len (4 + p) = 64 := zd_len4
    by_cases hj : j < r
    · obtain ⟨n, hn64, en1, en', hn2, hs2, hA, hB⟩ := zq_gbstep hG hp hr er hgb hj
      have hcn : (nI n).toNatClampNeg = n := zq_c (by omega)
      have hlt : nI j < nI r := by rw [nI_ltI (by omega) (by omega)]; exact hj
      have e64 : ∀ k, 64 * nI p + nI k = nI (64 * p + k) := fun k => by rw [show (64 : Int32) = nI 64 from rfl, pk_mul, nI_add]
      have hcj : (nI (64 * p + j)).toNatClampNeg = 64 * p + j := zq_c (by omega)
      have hcm : (nI (64 * p + m)).toNatClampNeg = 64 * p + m := zq_c (by omega)
      have eat : fr_X1_at sc (4 + p) (nI j) = nI n := by rw [zd_at (by omega) s30 hj, hrow j (Or.inr ⟨Nat.le_refl _, hj⟩)]; exact en1
      have hokat : ok_X1_at sc (4 + p) (nI j) := zd_okat (by rw [hlen]; exact hr) s30 (by omega)
      obtain ⟨hfb, -⟩ := zq_fb (τ := sm) hn64 (nI p) (nI m) (nI j)
      rw [zq_held_c hgb.2.2.1] at hfb
      obtain ⟨hcb, hokcb⟩ := zd_cbr (s := sc) (n := n)
      have hheld : zq_held sc n ↔ zq_held τ n := by
        rw [← zq_held_c hgb.2.2.1 (s := sm)]
        unfold zq_held
        have c7 := hn 7 n (by decide) hn64
        have c6 := hn 6 n (by decide) hn64
        have k10 : ∀ q, q < 4 → sc 10 q = sm 10 q := fun q hq => by rw [ho 10 (by decide) (by omega), hgb.2.2.1 10 (by decide) (by decide)]; exact (ep q hq).1
        have k14 : ∀ q, q < 4 → sc 14 q = sm 14 q := fun q hq => by rw [ho 14 (by decide) (by omega), hgb.2.2.1 14 (by decide) (by decide)]; exact (ep q hq).2.2.2.2.1
        have k15 : ∀ q, q < 4 → sc 15 q = sm 15 q := fun q hq => by rw [ho 15 (by decide) (by omega), hgb.2.2.1 15 (by decide) (by decide)]; exact (ep q hq).2.2.2.2.2.1
        constructor
        · rintro ⟨q, hq, a, b, c⟩; exact ⟨q, hq, by rw [← k10 q hq]; exact a, by rw [← c7, ← k14 q hq]; exact b, by rw [← c6, ← k15 q hq]; exact c⟩
        · rintro ⟨q, hq, a, b, c⟩; exact ⟨q, hq, by rw [k10 q hq]; exact a, by rw [c7, k14 q hq]; exact b, by rw [c6, k15 q hq]; exact c⟩
      rw [hheld] at hcb
      by_cases hh : zq_held τ n
      · have hne : ¬ fb_X4_giveBack_L33 5 sm (nI p) (nI m) (nI j) (nI n) 0 0 = 0 := fun z => hfb.mp z hh
        have hne' : ¬ fr_X3_canBeReached sc n = 0 := fun z => hcb.mp z hh
        have hput := zd_put (s := sc) (t := 4 + p) (m := m) (r := r) (v := nI n) (by omega) s30 (by omega)
        have hokput := zd_okput (s := sc) (t := 4 + p) (m := m) (r := r) (v := nI n) (by rw [hlen]; exact hr) s30 (by omega)
        obtain ⟨sc', sm', m', a1, a2, a3, a4⟩ := ih (zs_u sc (40 + (4 + p)) m (nI n)) (zs_u sm 28 (64 * p + m) (nI n)) (m + 1) (j + 1) ⟨hB hh, fun c k hc8 hk => by rw [zs_uc (by omega), zs_uc (by omega)]; exact hn c k hc8 hk, fun c hc8 hne2 => by rw [zs_uc hne2]; exact ho c hc8 hne2, fun i hi => by
          by_cases him : i = m
          · subst him; rw [zs_us, zs_us]
          · rw [zs_uk him, zs_uk (by omega)]
            refine hrow i ?_
            rcases hi with hi | hi
            · exact Or.inl (by omega)
            · exact Or.inr ⟨by omega, hi.2⟩⟩ (by omega)
        refine ⟨sc', sm', m', a1, ?_, ?_, ?_⟩
        · rw [fn_X4_giveBack_L4, hc, e29, if_pos hlt, e64, hcj, en1, if_neg hne, e64, hcm, nI_1, nI_1]
          exact a2
        · rw [fn_X3_giveBack_L4, s30, if_pos hlt, eat, zd_nd hn64, if_neg (by decide), hcn, if_neg hne', hput, nI_1, nI_1]
          exact a3
        · rw [ok_X3_giveBack_L4]
          simp only [s30, eat, hcn, nI_1, hput]
          simp [hlt, hokat, zd_nd hn64, hokcb, hne', hokput, a4]
      · have heq : fb_X4_giveBack_L33 5 sm (nI p) (nI m) (nI j) (nI n) 0 0 = 0 := hfb.mpr hh
        have heq' : fr_X3_canBeReached sc n = 0 := hcb.mpr hh
        obtain ⟨sc', sm', m', a1, a2, a3, a4⟩ := ih (zs_u sc 0 n 0) (zs_u sm 0 n 0) m (j + 1) ⟨hA hh, fun c k hc8 hk => by
          by_cases hck : c = 0 ∧ k = n
          · rw [hck.1, hck.2, zs_us, zs_us]
          · rw [zq_u, zq_u, if_neg hck, if_neg hck]; exact hn c k hc8 hk, fun c hc8 hne2 => by rw [zs_uc (by omega)]; exact ho c hc8 hne2, fun i hi => by
          rw [zs_uc (by omega), zs_uc (by omega)]
          refine hrow i ?_
          rcases hi with hi | hi
          · exact Or.inl hi
          · exact Or.inr ⟨by omega, hi.2⟩⟩ (by omega)
        refine ⟨sc', sm', m', a1, ?_, ?_, ?_⟩
        · rw [fn_X4_giveBack_L4, hc, e29, if_pos hlt, e64, hcj, en1, if_pos heq, hcn, nI_1]
          exact a2
        · rw [fn_X3_giveBack_L4, s30, if_pos hlt, eat, zd_nd hn64, if_neg (by decide), hcn, if_pos heq', nI_1]
          exact a3
        · rw [ok_X3_giveBack_L4]
          simp only [s30, eat, hcn, nI_1]
          simp [hlt, hokat, zd_nd hn64, hokcb, heq', a4]
    · have : j = r := by omega
      subst this
      have hnl : ¬ nI j < nI j := by rw [nI_ltI (by omega) (by omega)]; omega
      refine ⟨sc, sm, m, h, ?_, ?_, ?_⟩
      · rw [fn_X4_giveBack_L4, hc, e29, if_neg hnl]
      · rw [fn_X3_giveBack_L4, s30, if_neg hnl, zd_cut (r := j) (by omega) s30 hmj]
        have : zs_u sc 30 (4 + p) (nI m) 25 p = σ 25 p := by rw [zs_uc (by decide), ho 25 (by decide) (by omega)]
        rw [this]
      · rw [ok_X3_giveBack_L4, s30]
        exact ⟨fun z => absurd z hnl, fun _ => trivial⟩
theorem ze_12 {N p : Nat} {σ τ : zs_T} (hE : zr_E σ τ) (hI : zr_I N τ) (hp : p < 4) (h : τ 10 p = 12) : zr_E (fn_X3_advance σ p).1 (fn_X4_oneStep τ (nI p)).1 ∧ ok_X3_advance σ p := by
  have hc : (nI p).toNatClampNeg = p := zq_c (by omega)
  obtain ⟨d, b, hB, -, -⟩ := (hI.2 p hp).B
  obtain ⟨⟨en, eb, ⟨e32, e33, e34⟩, ep, est, erow⟩, e1⟩ := id hE
  obtain ⟨p10, p11, p12, p13, p14, p15, p16, p21, p22, p24, p26, p30, p29⟩ := ep p hp
  obtain ⟨q1, q2, q3, q4, q5⟩ := e1 p hp
  obtain ⟨⟨kk, hkk, ek⟩, ⟨hd4, ed, hb16, eb16, hst⟩, h21, h24, hoe⟩ := id hB
  have hs10 : σ 10 p = 12 := p10.trans h
  have hA : (fn_X3_advance σ p).1 = (fn_X3_giveBack σ p).1 := by unfold fn_X3_advance; rw [if_neg (by rw [hs10]; decide), if_neg (by rw [hs10]; decide), if_neg (by rw [hs10]; decide), if_neg (by rw [hs10]; decide), if_neg (by rw [hs10]; decide), if_neg (by rw [hs10]; decide), if_neg (by rw [hs10]; decide), if_neg (by rw [hs10]; decide), if_neg (by rw [hs10]; decide), if_neg (by rw [hs10]; decide), if_neg (by rw [hs10]; decide), if_pos hs10]
  have q1 := q1 (by rw [h]; decide)
  have q3 := q3 (by rw [h]; decide)
  have q5' := q5 (Or.inr (Or.inl h))
  have hown := (hI.1.2.2.2.2.2.2.2.2.1 p hp).imp (fun n hn => hn.1)
  obtain ⟨r, hr, er, -⟩ := hI.1.2.2.2.2.2.2.2.2.2.2.1 p hp
  obtain ⟨sc, sm, m, ⟨hgb, hn, ho, hrow⟩, a2, a3, a4⟩ := zd_gcloop hE hI.1 hp hr er 65 σ τ 0 0 ⟨zq_gb0, en, fun _ _ _ => rfl, fun i hi => by
    rcases hi with hi | hi
    · omega
    · rw [show 40 + (4 + p) = 44 + p by omega]
      exact erow p i hp (by omega) (by rw [er, nI_ltI (by omega) (by omega)]; exact hi.2)⟩ (by omega)
  have hmr := hgb.2.1
  have egm : (fn_X4_giveBack τ (nI p)).1 = zs_u sm 29 p (nI m) := a2
  have egc : (fn_X3_giveBack σ p).1 = (fn_X3_end (zs_u sc 30 (4 + p) (nI m)) p (σ 25 p)).1 := a3
  have hokg : ok_X3_giveBack σ p := a4
  have eif : (fn_X4_oneStep τ (nI p)).1 = (fn_X4_ends ((fn_X4_giveBack τ (nI p)).1) (nI p) (((fn_X4_giveBack τ (nI p)).1) 25 p)).1 := by
    unfold fn_X4_oneStep
    rw [hc, if_neg (by rw [h]; decide), if_neg (by rw [h]; decide), if_neg (by rw [h]; decide), if_neg (by rw [h]; decide), if_neg (by rw [h]; decide), if_neg (by rw [h]; decide), if_neg (by rw [h]; decide), if_neg (by rw [h]; decide), if_neg (by rw [h]; decide), if_neg (by rw [h]; decide), if_neg (by rw [h]; decide), if_pos h]
  refine ⟨?_, by unfold ok_X3_advance; simp [hs10, hokg]⟩
  have om := hgb.2.2.1
  have g44 : 44 + p = 40 + (4 + p) := by omega
  have e25 : zs_u sm 29 p (nI m) 25 p = σ 25 p := by rw [zs_uc (by decide), om 25 (by decide) (by decide)]; exact q5'.symm
  rw [hA, eif, egc, egm, e25]
  have mo : ∀ c, c ≠ 0 → c ≠ 28 → c ≠ 29 → zs_u sm 29 p (nI m) c = τ c := fun c b1 b2 b3 => by rw [zs_uc b3]; exact om c b1 b2
  have co : ∀ c, 8 ≤ c → c ≠ 40 + (4 + p) → c ≠ 30 → zs_u sc 30 (4 + p) (nI m) c = σ c := fun c b1 b2 b3 => by rw [zs_uc b3]; exact ho c b1 b2
  refine ze_end (d := d) ?_ hp hd4 (by rw [mo 30 (by decide) (by decide) (by decide)]; exact ed) (by rw [mo 22 (by decide) (by decide) (by decide)]; exact hown) _
  have cl : ∀ t, t ≠ 4 + p → zs_u sc 30 (4 + p) (nI m) 30 t = σ 30 t := fun t ht => by rw [zs_uk ht, ho 30 (by decide) (by omega)]
  have ml : ∀ q, q ≠ p → zs_u sm 29 p (nI m) 29 q = τ 29 q := fun q hq => by rw [zs_uk hq, om 29 (by decide) (by decide)]
  refine zr_E_up (p := p) hE hp ?_ ?_ ?_ ?_ ?_ ?_ ?_ ?_ ?_
  · intro c k hc8 hk64
    rw [zs_uc (by omega), zs_uc (by omega)]; exact hn c k hc8 hk64
  · intro b0 hb0
    rw [co 31 (by decide) (by omega) (by decide), mo 31 (by decide) (by decide) (by decide)]; exact eb b0 hb0
  · rw [co 32 (by decide) (by omega) (by decide), co 33 (by decide) (by omega) (by decide), co 34 (by decide) (by omega) (by decide), mo 32 (by decide) (by decide) (by decide), mo 33 (by decide) (by decide) (by decide), mo 34 (by decide) (by decide) (by decide)]
    exact ⟨e32, e33, e34⟩
  · intro q hq hne
    unfold zr_VC
    rw [co 10 (by decide) (by omega) (by decide), co 11 (by decide) (by omega) (by decide), co 12 (by decide) (by omega) (by decide), co 13 (by decide) (by omega) (by decide), co 14 (by decide) (by omega) (by decide), co 15 (by decide) (by omega) (by decide), co 16 (by decide) (by omega) (by decide), co 17 (by decide) (by omega) (by decide), co 18 (by decide) (by omega) (by decide), co 19 (by decide) (by omega) (by decide), co 20 (by decide) (by omega) (by decide), co 21 (by decide) (by omega) (by decide), co 22 (by decide) (by omega) (by decide), co 23 (by decide) (by omega) (by decide), co 24 (by decide) (by omega) (by decide), co 25 (by decide) (by omega) (by decide), co 26 (by decide) (by omega) (by decide), co (40 + q) (by omega) (by omega) (by omega), co (44 + q) (by omega) (by omega) (by omega), cl q (by omega), cl (4 + q) (by omega)]
    exact ⟨rfl, rfl, rfl, rfl, rfl, rfl, rfl, rfl, rfl, rfl, rfl, rfl, rfl, rfl, rfl, rfl, rfl, rfl, rfl, fun _ => rfl, fun _ => rfl⟩
  · intro q hq hne
    unfold zr_VM
    rw [mo 10 (by decide) (by decide) (by decide), mo 11 (by decide) (by decide) (by decide), mo 12 (by decide) (by decide) (by decide), mo 13 (by decide) (by decide) (by decide), mo 14 (by decide) (by decide) (by decide), mo 15 (by decide) (by decide) (by decide), mo 16 (by decide) (by decide) (by decide), mo 17 (by decide) (by decide) (by decide), mo 18 (by decide) (by decide) (by decide), mo 19 (by decide) (by decide) (by decide), mo 20 (by decide) (by decide) (by decide), mo 21 (by decide) (by decide) (by decide), mo 22 (by decide) (by decide) (by decide), mo 23 (by decide) (by decide) (by decide), mo 24 (by decide) (by decide) (by decide), mo 25 (by decide) (by decide) (by decide), mo 26 (by decide) (by decide) (by decide), mo 27 (by decide) (by decide) (by decide), mo 30 (by decide) (by decide) (by decide), ml q hne]
    refine ⟨rfl, rfl, rfl, rfl, rfl, rfl, rfl, rfl, rfl, rfl, rfl, rfl, rfl, rfl, rfl, rfl, rfl, rfl, rfl, fun _ _ => rfl, fun j hj => ?_⟩
    rw [zs_uc (by decide)]
    exact hgb.2.2.2.1 (64 * q + j) (by omega)
  · rw [co 10 (by decide) (by omega) (by decide), co 11 (by decide) (by omega) (by decide), co 12 (by decide) (by omega) (by decide), co 13 (by decide) (by omega) (by decide), co 14 (by decide) (by omega) (by decide), co 15 (by decide) (by omega) (by decide), co 16 (by decide) (by omega) (by decide), co 21 (by decide) (by omega) (by decide), co 22 (by decide) (by omega) (by decide), co 24 (by decide) (by omega) (by decide), co 26 (by decide) (by omega) (by decide), cl p (by omega), mo 10 (by decide) (by decide) (by decide), mo 11 (by decide) (by decide) (by decide), mo 12 (by decide) (by decide) (by decide), mo 13 (by decide) (by decide) (by decide), mo 14 (by decide) (by decide) (by decide), mo 15 (by decide) (by decide) (by decide), mo 16 (by decide) (by decide) (by decide), mo 21 (by decide) (by decide) (by decide), mo 22 (by decide) (by decide) (by decide), mo 24 (by decide) (by decide) (by decide), mo 26 (by decide) (by decide) (by decide), mo 30 (by decide) (by decide) (by decide), zs_us, zs_us]
    exact ⟨p10, p11, p12, p13, p14, p15, p16, p21, p22, p24, p26, p30, rfl⟩
  · intro j hj hlt
    rw [mo 30 (by decide) (by decide) (by decide)] at hlt
    rw [co (40 + p) (by omega) (by omega) (by omega), mo 27 (by decide) (by decide) (by decide)]
    exact est p j hp hj hlt
  · intro j hj hlt
    rw [zs_us] at hlt
    have hlt := (nI_ltI (by omega) (by omega)).mp hlt
    rw [g44, zs_uc (by omega), zs_uc (by decide)]
    exact hrow j (Or.inl hlt)
  · unfold zr_E1
    rw [co 17 (by decide) (by omega) (by decide), co 18 (by decide) (by omega) (by decide), co 19 (by decide) (by omega) (by decide), co 20 (by decide) (by omega) (by decide), co 22 (by decide) (by omega) (by decide), co 23 (by decide) (by omega) (by decide), co 25 (by decide) (by omega) (by decide), mo 10 (by decide) (by decide) (by decide), mo 17 (by decide) (by decide) (by decide), mo 18 (by decide) (by decide) (by decide), mo 19 (by decide) (by decide) (by decide), mo 20 (by decide) (by decide) (by decide), mo 23 (by decide) (by decide) (by decide), mo 24 (by decide) (by decide) (by decide), mo 25 (by decide) (by decide) (by decide)]
    exact e1 p hp
/-- EVERY STEP KEEPS THE TWO SIDES ALIKE -/
theorem ze_step {N p : Nat} {σ τ : zs_T} (hE : zr_E σ τ) (hI : zr_I N τ) (hN : N < 1000000) (hp : p < 4) : zr_E (fn_X3_advance σ p).1 (fn_X4_oneStep τ (nI p)).1 ∧ ok_X3_advance σ p := by
  have hc : (nI p).toNatClampNeg = p := zq_c (by omega)
  obtain ⟨h1, h2⟩ := (hI.2 p hp).1
  have p10 := (hE.1.2.2.2.1 p hp).1
  have key : ∀ k : Nat, k < 14 → (τ 10 p).toInt = k → τ 10 p = nI k := fun k hk e => Int32.toInt_inj.mp (by rw [e, nI_toInt (by omega)])
  obtain ⟨k, hk⟩ : ∃ k : Nat, (τ 10 p).toInt = k := ⟨(τ 10 p).toInt.toNat, by omega⟩
  have hk14 : k < 14 := by omega
  have e := key k hk14 hk
  rcases (show k = 0 ∨ k = 1 ∨ k = 2 ∨ k = 3 ∨ k = 4 ∨ k = 5 ∨ k = 6 ∨ k = 7 ∨ k = 8 ∨ k = 9 ∨ k = 10 ∨ k = 11 ∨ k = 12 ∨ k = 13 by omega) with rfl | rfl | rfl | rfl | rfl | rfl | rfl | rfl | rfl | rfl | rfl | rfl | rfl | rfl
  · have e : τ 10 p = 0 := e
    have e' : σ 10 p = 0 := p10.trans e
    constructor
    · have hτ : (fn_X4_oneStep τ (nI p)).1 = τ := by
        unfold fn_X4_oneStep
        rw [hc, if_neg (by rw [e]; decide), if_neg (by rw [e]; decide), if_neg (by rw [e]; decide), if_neg (by rw [e]; decide), if_neg (by rw [e]; decide), if_neg (by rw [e]; decide), if_neg (by rw [e]; decide), if_neg (by rw [e]; decide), if_neg (by rw [e]; decide), if_neg (by rw [e]; decide), if_neg (by rw [e]; decide), if_neg (by rw [e]; decide), if_neg (by rw [e]; decide)]
      have hσ : (fn_X3_advance σ p).1 = σ := by
        unfold fn_X3_advance
        rw [if_neg (by rw [e']; decide), if_neg (by rw [e']; decide), if_neg (by rw [e']; decide), if_neg (by rw [e']; decide), if_neg (by rw [e']; decide), if_neg (by rw [e']; decide), if_neg (by rw [e']; decide), if_neg (by rw [e']; decide), if_neg (by rw [e']; decide), if_neg (by rw [e']; decide), if_neg (by rw [e']; decide), if_neg (by rw [e']; decide), if_neg (by rw [e']; decide)]
      rw [hσ, hτ]; exact hE
    · unfold ok_X3_advance
      simp [e']
  · exact ze_1 hE hI hp e
  · exact ze_2 hE hI hp e
  · exact ze_3 hE hI hp e
  · exact ze_4 hE hI hp e
  · exact ze_5 hE hI hp e
  · exact ze_6 hE hI hN hp e
  · exact ze_7 hE hI hp e
  · exact ze_8 hE hI hp e
  · exact ze_9 hE hI hp e
  · exact ze_10 hE hI hp e
  · exact ze_11 hE hI hN hp e
  · exact ze_12 hE hI hp e
  · exact ze_13 hE hI hp e
