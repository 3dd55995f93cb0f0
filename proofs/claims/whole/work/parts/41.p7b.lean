theorem zq_wc {τ τ' : zs_T} (e30 : τ' 30 = τ 30) (e27 : τ' 27 = τ 27) (e12 : τ' 12 = τ 12) (x : Int32) : fr_X4_wanted τ' x = fr_X4_wanted τ x := by
  unfold fr_X4_wanted fr_X4_hash
  rw [e30, e27, e12, zq_t4c τ' τ, zq_t4c τ' τ]
theorem zq_okw2 {τ : zs_T} {p d : Nat} (hp : p < 4) (hd4 : d ≤ 4) (ed : τ 30 p = nI d) : ok_X4_wanted τ (nI p) := by
  have hc : (nI p).toNatClampNeg = p := zq_c (by omega)
  have hv : vp_in (nI p) 4 := zq_in hp (by decide)
  have e16 : 16 * nI p + nI d = nI (16 * p + d) := by rw [show (16 : Int32) = nI 16 from rfl, pk_mul, nI_add]
  unfold ok_X4_wanted
  refine ⟨hv, fun h => ⟨hv, ?_, zq_ok4t _ _, trivial⟩, fun h => ⟨hv, zq_ok4t _ _, trivial⟩⟩
  rw [hc, ed] at h
  rw [hc, ed, e16]
  have hd0 : 0 < d := by rw [show (0 : Int32) = nI 0 from rfl, nI_ltI (by omega) (by omega)] at h; exact h
  rw [show (1 : Int32) = nI 1 from rfl, pk_sub (by omega)]
  exact zq_in (by omega) (by decide)
def zq_al0 (τ : zs_T) (p n : Nat) (w : Int32) : zs_T := zs_u (zs_u (zs_u (zs_u (zs_u τ 22 p (nI n)) 0 n 1) 1 n w) 4 n (-1)) 5 n 0
def zq_alF (s τ : zs_T) (p n : Nat) : zs_T := zs_u (zs_u (zs_u (zs_u (zs_u s 6 n (τ 34 0)) 7 n 0) 2 n (τ 19 p)) 3 n 0) 10 p 8
/-- the state behind place 7, where n was free -/
def zq_al (τ : zs_T) (p n : Nat) : zs_T := zq_alF (if τ 30 p = 0 then zs_u (zs_u (zq_al0 τ p n (fr_X4_wanted τ (nI p))) 4 n (τ 12 p)) 5 n (τ 13 p) else zq_al0 τ p n (fr_X4_wanted τ (nI p))) τ p n
theorem zq_prep {τ : zs_T} {p : Nat} (hp : p < 4) : ∀ f i, i ≤ 64 → 64 < f + i → (∃ n, i ≤ n ∧ n < 64 ∧ τ 0 n = 0 ∧ (∀ m, i ≤ m → m < n → τ 0 m ≠ 0) ∧ (fn_X4_prepare_L13 f τ (nI p) (nI i)).1 = zq_al τ p n) ∨ ((∀ m, i ≤ m → m < 64 → τ 0 m ≠ 0) ∧ (fn_X4_prepare_L13 f τ (nI p) (nI i)).1 = (fn_X4_ends τ (nI p) (-2)).1) := by
  have hc : (nI p).toNatClampNeg = p := zq_c (by omega)
  intro f
  induction f with
  | zero => intro i h1 h2; omega
  | succ f ih =>
    intro i h1 h2
    have hci : (nI i).toNatClampNeg = i := zq_c (by omega)
    by_cases hi : i < 64
    · have hlt : nI i < 64 := by rw [show (64 : Int32) = nI 64 from rfl, nI_ltI (by omega) (by omega)]; exact hi
      have hne : ¬ nI i = 64 := by rw [show (64 : Int32) = nI 64 from rfl, nI_eq (by omega) (by omega)]; omega
      by_cases h0 : τ 0 i = 0
      · refine Or.inl ⟨i, by omega, hi, h0, fun m a b => by omega, ?_⟩
        rw [fn_X4_prepare_L13, hc, hci, if_pos hlt, if_pos h0, if_neg hne]
        have ew : fr_X4_wanted (zs_u (zs_u τ 22 p (nI i)) 0 i 1) (nI p) = fr_X4_wanted τ (nI p) := zq_wc rfl rfl rfl _
        rw [ew]
        unfold zq_al
        by_cases hd : τ 30 p = 0
        · rw [if_pos (show (zs_u (zs_u (zs_u (zs_u (zs_u τ 22 p (nI i)) 0 i 1) 1 i (fr_X4_wanted τ (nI p))) 4 i (-1)) 5 i 0) 30 p = 0 from hd), if_pos hd]
          rfl
        · rw [if_neg (show ¬ (zs_u (zs_u (zs_u (zs_u (zs_u τ 22 p (nI i)) 0 i 1) 1 i (fr_X4_wanted τ (nI p))) 4 i (-1)) 5 i 0) 30 p = 0 from hd), if_neg hd]
          rfl
      · have e1 : (fn_X4_prepare_L13 (f + 1) τ (nI p) (nI i)) = fn_X4_prepare_L13 f τ (nI p) (nI (i + 1)) := by
          rw [fn_X4_prepare_L13, hc, hci, if_pos hlt, if_neg h0, nI_1]
        rw [e1]
        rcases ih (i + 1) (by omega) (by omega) with ⟨n, a1, a2, a3, a4, a5⟩ | ⟨a1, a2⟩
        · refine Or.inl ⟨n, by omega, a2, a3, fun m b1 b2 => ?_, a5⟩
          by_cases hm : m = i
          · subst hm; exact h0
          · exact a4 m (by omega) b2
        · refine Or.inr ⟨fun m b1 b2 => ?_, a2⟩
          by_cases hm : m = i
          · subst hm; exact h0
          · exact a1 m (by omega) b2
    · have : i = 64 := by omega
      subst this
      refine Or.inr ⟨fun m a b => by omega, ?_⟩
      rw [fn_X4_prepare_L13, if_neg (by decide), if_pos (by decide)]
theorem zq_okprep {τ : zs_T} {p d : Nat} (hp : p < 4) (hd4 : d ≤ 4) (ed : τ 30 p = nI d) (hoe : ok_X4_ends τ (nI p) (-2)) : ∀ f i, i ≤ 64 → 64 < f + i → ok_X4_prepare_L13 f τ (nI p) (nI i) := by
  have hc : (nI p).toNatClampNeg = p := zq_c (by omega)
  have hv : vp_in (nI p) 4 := zq_in hp (by decide)
  intro f
  induction f with
  | zero => intro i h1 h2; omega
  | succ f ih =>
    intro i h1 h2
    have hci : (nI i).toNatClampNeg = i := zq_c (by omega)
    by_cases hi : i < 64
    · have hlt : nI i < 64 := by rw [show (64 : Int32) = nI 64 from rfl, nI_ltI (by omega) (by omega)]; exact hi
      have hne : ¬ nI i = 64 := by rw [show (64 : Int32) = nI 64 from rfl, nI_eq (by omega) (by omega)]; omega
      have hvi : vp_in (nI i) 64 := zq_in hi (by decide)
      have hw : ok_X4_wanted (zs_u (zs_u τ 22 p (nI i)) 0 i 1) (nI p) := zq_okw2 hp hd4 ed
      have hih := ih (i + 1) (by omega) (by omega)
      rw [ok_X4_prepare_L13]
      simp [hc, hci, hlt, hne, hvi, hv, hw, nI_1, hih]
    · have : i = 64 := by omega
      subst this
      have e64 : nI 64 = 64 := rfl
      rw [ok_X4_prepare_L13, e64]
      refine ⟨fun h => absurd h (by decide), fun _ => ⟨fun _ => ⟨hoe, trivial⟩, fun h => absurd rfl h⟩⟩
theorem zi_7 {N p : Nat} {τ : zs_T} (hI : zr_I N τ) (hp : p < 4) (h : τ 10 p = 7) : zr_I (N + 1) (fn_X4_oneStep τ (nI p)).1 ∧ ok_X4_oneStep τ (nI p) := by
  have hc : (nI p).toNatClampNeg = p := zq_c (by omega)
  have hv : vp_in (nI p) 4 := zq_in hp (by decide)
  obtain ⟨d, b, hB, -, -⟩ := (hI.2 p hp).B
  have hH := (hI.2 p hp).H7 h
  have hf := (hI.2 p hp).f7 h
  have hpr := (hI.2 p hp).pr7 h
  have hcu := (hI.2 p hp).cu7 h
  obtain ⟨g1, g2, g3, g4, g5, g6, g7, g8, g9, g10, g11, g12, g13, g14, g15⟩ := id hI.1
  have hends := zr_ends hI.1 (fun q hq _ => hI.2 q hq) hB hp (-2)
  have eif : fn_X4_oneStep τ (nI p) = ((fn_X4_prepare τ (nI p)).1, 0) := by
    unfold fn_X4_oneStep
    rw [hc, if_neg (by rw [h]; decide), if_neg (by rw [h]; decide), if_neg (by rw [h]; decide), if_neg (by rw [h]; decide), if_neg (by rw [h]; decide), if_neg (by rw [h]; decide), if_pos h]
  have hok1 : ok_X4_prepare τ (nI p) → ok_X4_oneStep τ (nI p) := by
    intro hl
    unfold ok_X4_oneStep
    simp [hc, h, hv, hl]
  have hcu64 : zr_rf (fun n => n < 64) (τ 19 p) := hcu.imp (fun n hn => hn.lt)
  rw [eif]
  suffices hh : zr_I (N + 1) (fn_X4_prepare τ (nI p)).1 ∧ ok_X4_prepare τ (nI p) from ⟨hh.1, hok1 hh.2⟩
  rcases g9 p hp with ho | ⟨o, ho, ho64, ho1⟩
  · have epr : fn_X4_prepare τ (nI p) = fn_X4_prepare_L13 65 τ (nI p) (nI 0) := by
      unfold fn_X4_prepare
      rw [hc, if_pos (show τ 22 p < 0 by rw [ho]; decide)]
      rfl
    refine ⟨?_, ?_⟩
    · rw [epr]
      rcases zq_prep (τ := τ) hp 65 0 (by omega) (by omega) with ⟨n, -, hn, hn0, -, e⟩ | ⟨-, e⟩
      · rw [e]
        generalize hτ' : zq_al τ p n = t2
        have r0 : ∀ k, t2 0 k = if k = n then 1 else τ 0 k := fun k => by rw [← hτ']; unfold zq_al zq_alF zq_al0; split <;> simp [zs_u]
        have r1 : ∀ k, t2 1 k = if k = n then fr_X4_wanted τ (nI p) else τ 1 k := fun k => by rw [← hτ']; unfold zq_al zq_alF zq_al0; split <;> simp [zs_u]
        have r2 : ∀ k, t2 2 k = if k = n then τ 19 p else τ 2 k := fun k => by rw [← hτ']; unfold zq_al zq_alF zq_al0; split <;> simp [zs_u]
        have r3 : ∀ k, t2 3 k = if k = n then 0 else τ 3 k := fun k => by rw [← hτ']; unfold zq_al zq_alF zq_al0; split <;> simp [zs_u]
        have r6 : ∀ k, t2 6 k = if k = n then τ 34 0 else τ 6 k := fun k => by rw [← hτ']; unfold zq_al zq_alF zq_al0; split <;> simp [zs_u]
        have r7 : ∀ k, t2 7 k = if k = n then 0 else τ 7 k := fun k => by rw [← hτ']; unfold zq_al zq_alF zq_al0; split <;> simp [zs_u]
        have r22 : ∀ q, t2 22 q = if q = p then nI n else τ 22 q := fun k => by rw [← hτ']; unfold zq_al zq_alF zq_al0; split <;> simp [zs_u]
        have oth : ∀ c, c ≠ 0 → c ≠ 1 → c ≠ 2 → c ≠ 3 → c ≠ 4 → c ≠ 5 → c ≠ 6 → c ≠ 7 → c ≠ 22 → c ≠ 10 → t2 c = τ c := by
          intro c n0 n1 n2 n3 n4 n5 n6 n7 n22 n10
          rw [← hτ']; unfold zq_al zq_alF zq_al0
          split <;> (funext k; simp [zs_u, n0, n1, n2, n3, n4, n5, n6, n7, n22, n10])
        have r10 : ∀ q, t2 10 q = if q = p then 8 else τ 10 q := fun k => by rw [← hτ']; unfold zq_al zq_alF zq_al0; split <;> simp [zs_u]
        have e28 := oth 28 (by decide) (by decide) (by decide) (by decide) (by decide) (by decide) (by decide) (by decide) (by decide) (by decide)
        have e29 := oth 29 (by decide) (by decide) (by decide) (by decide) (by decide) (by decide) (by decide) (by decide) (by decide) (by decide)
        have e31 := oth 31 (by decide) (by decide) (by decide) (by decide) (by decide) (by decide) (by decide) (by decide) (by decide) (by decide)
        have e32 := oth 32 (by decide) (by decide) (by decide) (by decide) (by decide) (by decide) (by decide) (by decide) (by decide) (by decide)
        have e34 := oth 34 (by decide) (by decide) (by decide) (by decide) (by decide) (by decide) (by decide) (by decide) (by decide) (by decide)
        have hO' : ∀ m, m < 64 → m ≠ n → (zr_O t2 m ↔ zr_O τ m) := by
          intro m hm hmn
          constructor
          · rintro ⟨q, hq, e1⟩
            rw [r22] at e1
            by_cases hqp : q = p
            · rw [if_pos hqp] at e1; exact absurd ((nI_eq (by omega) (by omega)).mp e1).symm hmn
            · rw [if_neg hqp] at e1; exact ⟨q, hq, e1⟩
          · rintro ⟨q, hq, e1⟩
            have hqp : q ≠ p := fun z => by subst z; rw [ho] at e1; exact absurd e1.symm (zq_m1 (by omega))
            exact ⟨q, hq, by rw [r22, if_neg hqp]; exact e1⟩
        have eL : zr_L t2 = zr_L τ := by
          funext m
          unfold zr_L
          apply propext
          by_cases hmn : m = n
          · subst hmn
            constructor
            · rintro ⟨-, -, h3⟩; exact absurd ⟨p, hp, by rw [r22, if_pos rfl]⟩ h3
            · rintro ⟨-, h2, -⟩; rw [hn0] at h2; exact absurd h2 (by decide)
          · rw [r0, if_neg hmn]
            constructor
            · rintro ⟨h1, h2, h3⟩; exact ⟨h1, h2, fun z => h3 ((hO' m h1 hmn).mpr z)⟩
            · rintro ⟨h1, h2, h3⟩; exact ⟨h1, h2, fun z => h3 ((hO' m h1 hmn).mp z)⟩
        have nen : ∀ m, τ 0 m ≠ 0 → m ≠ n := fun m hm z => by subst z; exact hm hn0
        have neL : ∀ m, zr_L τ m → m ≠ n := fun m hm => nen m (by rw [hm.2.1]; decide)
        have hG' : zr_G N t2 := by
          unfold zr_G
          rw [eL, e28, e29, e31, e32, e34]
          refine ⟨fun k hk => ?_, fun k hk => ?_, fun m hm => ?_, fun m m' hm hm' e1 hne => ?_, fun k hk h2 => ?_, fun m hm hev => ?_, fun b' hb' => ?_, g8, fun q hq => ?_, fun a c ha hc' e1 hne => ?_, fun q hq => ?_, g12, g13, fun k hk => ?_, g15⟩
          · rw [r3]; split
            · exact Or.inl rfl
            · exact g1 k hk
          · rw [r2]; split
            · exact hcu64
            · exact g2 k hk
          · rw [r2, if_neg (neL m hm)]; exact g3 m hm
          · rw [r2, if_neg (neL m hm)] at e1 hne
            rw [r2, if_neg (neL m' hm')] at e1
            exact g4 m m' hm hm' e1 hne
          · rw [r0] at h2
            by_cases hkn : k = n
            · rw [if_pos hkn] at h2; exact absurd h2 (by decide)
            · rw [if_neg hkn] at h2; rw [r3, if_neg hkn]; exact g5 k hk h2
          · rw [r1, if_neg (neL m hm)] at hev
            rw [r3, if_neg (neL m hm)]; exact g6 m hm hev
          · exact (g7 b' hb').imp (fun m hm => ⟨hm.1, by rw [r1, if_neg (neL m hm.1)]; exact hm.2⟩)
          · rw [r22]
            by_cases hqp : q = p
            · rw [if_pos hqp]; exact Or.inr ⟨n, rfl, hn, by rw [r0, if_pos rfl]⟩
            · rw [if_neg hqp]
              exact (g9 q hq).imp (fun m hm => ⟨hm.1, by rw [r0, if_neg (nen m (by rw [hm.2]; decide))]; exact hm.2⟩)
          · have ne : ∀ q, q < 4 → τ 22 q ≠ nI n := by
              intro q hq e2
              rcases g9 q hq with h1 | ⟨m, h1, h2, h3⟩
              · rw [e2] at h1; exact absurd h1 (zq_m1 (by omega))
              · have := (nI_eq (by omega) (by omega)).mp (h1.symm.trans e2)
                subst this; rw [hn0] at h3; exact absurd h3 (by decide)
            rw [r22] at e1 hne
            rw [r22] at e1
            by_cases hap : a = p
            · by_cases hcp : c = p
              · omega
              · rw [if_pos hap, if_neg hcp] at e1; exact absurd e1.symm (ne c hc')
            · by_cases hcp : c = p
              · rw [if_neg hap, if_pos hcp] at e1; exact absurd e1 (ne a ha)
              · rw [if_neg hap, if_neg hcp] at e1; rw [if_neg hap] at hne; exact g10 a c ha hc' e1 hne
          · obtain ⟨r, hr, er, hrow⟩ := g11 q hq
            exact ⟨r, hr, er, fun j hj => (hrow j hj).imp (fun m hm => ⟨hm.1, by rw [r0, if_neg (nen m (by rw [hm.2]; decide))]; exact hm.2⟩)⟩
          · rw [r6]; split
            · exact Int32.le_refl _
            · exact g14 k hk
        have hK : ∀ q, q < 4 → zr_K τ t2 q := by
          intro q hq
          refine ⟨fun m hm => Or.inl (by rw [eL]; exact hm), fun m hm h2 _ _ _ => ?_, fun m hm h0 => ?_, fun m hm h0 h3 _ => ?_, fun m hm hoq => ?_, by rw [e34]; exact Int32.le_refl _⟩
          · have := nen m (by rw [h2]; decide)
            exact ⟨by rw [r0, if_neg this]; exact h2, by rw [r7, if_neg this]⟩
          · exact ⟨by rw [r6, if_neg (nen m h0)], by rw [r1, if_neg (nen m h0)]⟩
          · exact ⟨by rw [r3, if_neg (nen m h0)]; exact h3, by rw [r2, if_neg (nen m h0)]⟩
          · have hm1 : τ 0 m ≠ 0 := by
              rcases g9 q hq with h1 | ⟨m', h1, h2, h3⟩
              · rw [hoq] at h1; exact absurd h1 (zq_m1 (by omega))
              · have := (nI_eq (by omega) (by omega)).mp (h1.symm.trans hoq)
                subst this; rw [h3]; decide
            exact ⟨by rw [r2, if_neg (nen m hm1)], by rw [r3, if_neg (nen m hm1)]⟩
        have e14 := oth 14 (by decide) (by decide) (by decide) (by decide) (by decide) (by decide) (by decide) (by decide) (by decide) (by decide)
        have e15 := oth 15 (by decide) (by decide) (by decide) (by decide) (by decide) (by decide) (by decide) (by decide) (by decide) (by decide)
        have e12 := oth 12 (by decide) (by decide) (by decide) (by decide) (by decide) (by decide) (by decide) (by decide) (by decide) (by decide)
        have e16 := oth 16 (by decide) (by decide) (by decide) (by decide) (by decide) (by decide) (by decide) (by decide) (by decide) (by decide)
        have e17 := oth 17 (by decide) (by decide) (by decide) (by decide) (by decide) (by decide) (by decide) (by decide) (by decide) (by decide)
        have e18 := oth 18 (by decide) (by decide) (by decide) (by decide) (by decide) (by decide) (by decide) (by decide) (by decide) (by decide)
        have e19 := oth 19 (by decide) (by decide) (by decide) (by decide) (by decide) (by decide) (by decide) (by decide) (by decide) (by decide)
        have e20 := oth 20 (by decide) (by decide) (by decide) (by decide) (by decide) (by decide) (by decide) (by decide) (by decide) (by decide)
        have e21 := oth 21 (by decide) (by decide) (by decide) (by decide) (by decide) (by decide) (by decide) (by decide) (by decide) (by decide)
        have e23 := oth 23 (by decide) (by decide) (by decide) (by decide) (by decide) (by decide) (by decide) (by decide) (by decide) (by decide)
        have e24 := oth 24 (by decide) (by decide) (by decide) (by decide) (by decide) (by decide) (by decide) (by decide) (by decide) (by decide)
        have e27 := oth 27 (by decide) (by decide) (by decide) (by decide) (by decide) (by decide) (by decide) (by decide) (by decide) (by decide)
        have e30 := oth 30 (by decide) (by decide) (by decide) (by decide) (by decide) (by decide) (by decide) (by decide) (by decide) (by decide)
        refine ⟨zr_G_mono (by omega) hG', fun q hq => ?_⟩
        by_cases hqp : q = p
        · subst hqp
          have pk := fun m (hm : zr_Pt τ q m) => zr_Pt_keep (hK q hq) hm (by rw [h]; decide) hH.1 (by rw [e14]) (by rw [e15]; exact Int32.le_refl _)
          refine zr_mk8 (d := d) (b := b) ⟨by rw [e12]; exact hB.1, by rw [e30, e16, e27]; exact hB.2.1, by rw [e21]; exact hB.2.2.1, by rw [e24]; exact hB.2.2.2.1, fun m hm e0 hd => ?_⟩ (by rw [r10, if_pos rfl]) ⟨by rw [e14, e34]; exact hH.1, by rw [e15, e34]; exact hH.2⟩ (by rw [e17]; exact hf.imp (fun m hm => zr_D_keep hI.1 (hK q hq) hm)) (by rw [e18]; exact hpr.imp pk) (by rw [e19]; exact hcu.imp pk) ⟨n, by rw [r22, if_pos rfl], hn, by rw [r2, if_pos rfl, e19], by rw [r3, if_pos rfl]⟩
          rw [r22, if_pos rfl] at e0
          have : n = m := (nI_eq (by omega) (by omega)).mp e0
          subst this
          rw [r1, if_pos rfl]
          rw [e30] at hd
          refine zq_wev hq ?_
          rw [hB.2.1.2.1] at hd ⊢
          exact (zq_d0 hB.2.1.1).mpr hd
        · exact zr_P_keep hI.1 (hK q hq) ⟨by rw [r10, if_neg hqp], by rw [e12], by rw [e14], by rw [e15], by rw [e16], by rw [e17], by rw [e18], by rw [e19], by rw [e20], by rw [e21], by rw [r22, if_neg hqp], by rw [e23], by rw [e24], by rw [e30], fun j _ => by rw [e27]⟩ hq (hI.2 q hq)
      · rw [e]
        exact ⟨zr_G_mono (by omega) hends.1.1, hends.1.2⟩
    · unfold ok_X4_prepare
      have := zq_okprep hp hB.2.1.1 hB.2.1.2.1 hends.2 65 0 (by omega) (by omega)
      rw [nI_0] at this
      simp [hc, hv, ho, this]
  · have hco : (nI o).toNatClampNeg = o := zq_c (by omega)
    have hvo : vp_in (nI o) 64 := zq_in ho64 (by decide)
    have hno : ¬ nI o < 0 := zq_ge (by omega)
    have hoO : zr_O τ o := ⟨p, hp, ho⟩
    constructor
    · unfold fn_X4_prepare
      rw [hc, ho, if_neg hno, hco]
      show zr_I (N + 1) (zs_u (zs_u (zs_u τ 2 o (τ 19 p)) 3 o 0) 10 p 8)
      have r2 : ∀ k, (zs_u (zs_u (zs_u τ 2 o (τ 19 p)) 3 o 0) 10 p 8) 2 k = if k = o then τ 19 p else τ 2 k := fun k => by simp [zs_u]
      have r3 : ∀ k, (zs_u (zs_u (zs_u τ 2 o (τ 19 p)) 3 o 0) 10 p 8) 3 k = if k = o then 0 else τ 3 k := fun k => by simp [zs_u]
      have eL : zr_L (zs_u (zs_u (zs_u τ 2 o (τ 19 p)) 3 o 0) 10 p 8) = zr_L τ := zr_L_congr rfl rfl
      have neL : ∀ m, zr_L τ m → m ≠ o := fun m hm z => by subst z; exact hm.2.2 hoO
      have hG' : zr_G N (zs_u (zs_u (zs_u τ 2 o (τ 19 p)) 3 o 0) 10 p 8) := by
        unfold zr_G
        rw [eL]
        refine ⟨fun k hk => ?_, fun k hk => ?_, fun m hm => ?_, fun m m' hm hm' e1 hne => ?_, fun k hk h2 => ?_, fun m hm hev => ?_, g7, g8, g9, g10, g11, g12, g13, g14, g15⟩
        · rw [r3]; split
          · exact Or.inl rfl
          · exact g1 k hk
        · rw [r2]; split
          · exact hcu64
          · exact g2 k hk
        · rw [r2, if_neg (neL m hm)]; exact g3 m hm
        · rw [r2, if_neg (neL m hm)] at e1 hne
          rw [r2, if_neg (neL m' hm')] at e1
          exact g4 m m' hm hm' e1 hne
        · have h2' : τ 0 k = 2 := h2
          rw [r3, if_neg (fun z => by rw [z, ho1] at h2'; exact absurd h2' (by decide))]; exact g5 k hk h2'
        · rw [r3, if_neg (neL m hm)]; exact g6 m hm hev
      refine ⟨zr_G_mono (by omega) hG', fun q hq => ?_⟩
      by_cases hqp : q = p
      · subst hqp
        exact zr_mk8 (zr_B_congr hB rfl rfl rfl rfl (fun _ _ => rfl) hB.2.2.1 hB.2.2.2.1 rfl) (by simp [zs_u]) hH (zr_D_of (τ := τ) rfl rfl rfl hf) (zr_nd_congr hpr rfl (zr_Pt_congr rfl rfl rfl rfl rfl rfl)) (zr_rf_congr hcu rfl (zr_Pt_congr rfl rfl rfl rfl rfl rfl)) ⟨o, ho, ho64, by rw [r2, if_pos rfl]; rfl, by rw [r3, if_pos rfl]⟩
      · refine zr_P_keep hI.1 ⟨fun m hm => Or.inl (by rw [eL]; exact hm), fun m hm h2 _ _ _ => ⟨h2, rfl⟩, fun m _ _ => ⟨rfl, rfl⟩, fun m hm _ h3 hnO => ?_, fun m hm hoq => ?_, Int32.le_refl _⟩ (by simp [zr_Q, zs_u, hqp]) hq (hI.2 q hq)
        · have : m ≠ o := fun z => by subst z; exact hnO hoO
          exact ⟨by rw [r3, if_neg this]; exact h3, by rw [r2, if_neg this]⟩
        · have : m ≠ o := fun z => by subst z; exact hqp (g10 q p hq hp (hoq.trans ho.symm) (by rw [hoq]; exact zq_m1 (by omega)))
          exact ⟨by rw [r2, if_neg this], by rw [r3, if_neg this]⟩
    · unfold ok_X4_prepare
      simp [hc, hv, ho, hno, hco, hvo]
