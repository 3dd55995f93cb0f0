/-! places 8 and 7 -/
theorem zi_8 {N p : Nat} {τ : zs_T} (hI : zr_I N τ) (hp : p < 4) (h : τ 10 p = 8) : zr_I (N + 1) (fn_X4_oneStep τ (nI p)).1 ∧ ok_X4_oneStep τ (nI p) := by
  have hc : (nI p).toNatClampNeg = p := zq_c (by omega)
  have hv : vp_in (nI p) 4 := zq_in hp (by decide)
  obtain ⟨d, b, hB, -, -⟩ := (hI.2 p hp).B
  have hH := (hI.2 p hp).H8 h
  have hf := (hI.2 p hp).f8 h
  have hpr := (hI.2 p hp).pr8 h
  have hcu := (hI.2 p hp).cu8 h
  obtain ⟨o, eo, ho64, hon, hom⟩ := (hI.2 p hp).w8 h
  obtain ⟨a, ea, haP⟩ := id hpr
  have hal := haP.lt
  obtain ⟨g1, g2, g3, g4, g5, g6, g7, g8, g9, g10, g11, g12, g13, g14, g15⟩ := id hI.1
  have hoO : zr_O τ o := ⟨p, hp, eo⟩
  have ho1 : τ 0 o = 1 := by
    rcases g9 p hp with h1 | ⟨k, h1, h2, h3⟩
    · rw [eo] at h1; exact absurd h1 (zq_m1 (by omega))
    · have := (nI_eq (by omega) (by omega)).mp (h1.symm.trans eo)
      subst this; exact h3
  have eif : fn_X4_oneStep τ (nI p) = ((fn_X4_putIn τ (nI p)).1, 0) := by
    unfold fn_X4_oneStep
    rw [hc, if_neg (by rw [h]; decide), if_neg (by rw [h]; decide), if_neg (by rw [h]; decide), if_neg (by rw [h]; decide), if_neg (by rw [h]; decide), if_neg (by rw [h]; decide), if_neg (by rw [h]; decide), if_pos h]
  have hok1 : ok_X4_putIn τ (nI p) → ok_X4_oneStep τ (nI p) := by
    intro hl
    unfold ok_X4_oneStep
    simp [hc, h, hv, hl]
  rw [eif]
  suffices hh : zr_I (N + 1) (fn_X4_putIn τ (nI p)).1 ∧ ok_X4_putIn τ (nI p) from ⟨hh.1, hok1 hh.2⟩
  have hokc : ok_X4_change τ (nI a) (τ 19 p) (nI o) 0 := zq_okchange hal (Or.inl rfl)
  by_cases hch : τ 2 a = τ 19 p ∧ τ 3 a = 0
  · have ech : fn_X4_change τ (nI a) (τ 19 p) (nI o) 0 = (zs_u (zs_u τ 2 a (nI o)) 3 a 0, 1) := zq_changeT hal hch.1 hch.2
    have haL := haP.L hI.1 hch.2
    have hao : a ≠ o := fun q => by subst q; exact haL.2.2 hoO
    have ec22 : (zs_u (zs_u τ 2 a (nI o)) 3 a 0) 22 p = nI o := eo
    have e30 : (zs_u (zs_u (zs_u (zs_u (zs_u τ 2 a (nI o)) 3 a 0) 23 p (nI o)) 22 p (-1)) 10 p 9) 30 p = τ 30 p := rfl
    -- any state that is this one but for the process itself
    have main : ∀ t2 : zs_T, (∀ k, t2 2 k = if k = a then nI o else τ 2 k) → (∀ k, t2 3 k = if k = a then 0 else τ 3 k) → (∀ q, t2 22 q = if q = p then -1 else τ 22 q) → t2 0 = τ 0 → t2 1 = τ 1 → t2 6 = τ 6 → t2 7 = τ 7 → t2 28 = τ 28 → t2 29 = τ 29 → t2 31 = τ 31 → t2 32 = τ 32 → t2 34 = τ 34 → zr_G N t2 ∧ (∀ m, zr_L t2 m ↔ zr_L τ m ∨ m = o) ∧ ∀ q, q < 4 → zr_K τ t2 q := by
      intro t2 r2 r3 r22 e0 e1 e6 e7 e28 e29 e31 e32 e34
      have hO' : ∀ m, m < 64 → (zr_O t2 m ↔ zr_O τ m ∧ m ≠ o) := by
        intro m hm
        constructor
        · rintro ⟨q, hq, e⟩
          rw [r22] at e
          by_cases hqp : q = p
          · rw [if_pos hqp] at e; exact absurd e.symm (zq_m1 (by omega))
          · rw [if_neg hqp] at e
            refine ⟨⟨q, hq, e⟩, fun z => ?_⟩
            subst z
            exact hqp (g10 q p hq hp (e.trans eo.symm) (by rw [e]; exact zq_m1 (by omega)))
        · rintro ⟨⟨q, hq, e⟩, hm2⟩
          have hqp : q ≠ p := fun z => by subst z; exact hm2 ((nI_eq (by omega) (by omega)).mp (eo.symm.trans e)).symm
          exact ⟨q, hq, by rw [r22, if_neg hqp]; exact e⟩
      have eL : ∀ m, zr_L t2 m ↔ zr_L τ m ∨ m = o := by
        intro m
        unfold zr_L
        rw [e0]
        constructor
        · rintro ⟨h1, h2, h3⟩
          by_cases hmo : m = o
          · exact Or.inr hmo
          · exact Or.inl ⟨h1, h2, fun z => h3 ((hO' m h1).mpr ⟨z, hmo⟩)⟩
        · rintro (⟨h1, h2, h3⟩ | hmo)
          · exact ⟨h1, h2, fun z => h3 ((hO' m h1).mp z).1⟩
          · subst hmo
            exact ⟨ho64, ho1, fun z => ((hO' m ho64).mp z).2 rfl⟩
      have nL : ∀ n, zr_L τ n → τ 2 n ≠ nI o := by
        intro n hn e
        rcases g3 n hn with h1 | ⟨m, h1, h2⟩
        · rw [e] at h1; exact absurd h1 (zq_m1 (by omega))
        · have := (nI_eq (by omega) (by have := h2.1; omega)).mp (e.symm.trans h1)
          subst this; exact h2.2.2 hoO
      have nLo : ∀ n, zr_L τ n → n ≠ o := fun n hn z => by subst z; exact hn.2.2 hoO
      refine ⟨?_, eL, fun q hq => ?_⟩
      · refine ⟨fun k hk => ?_, fun k hk => ?_, fun n hn => ?_, fun n m hn hm e hne => ?_, fun k hk h2 => ?_, fun n hn hev => ?_, fun b hb => ?_, by rw [e31]; exact g8, fun q hq => ?_, fun a' c' ha hc' e hne => ?_, by rw [e29, e28, e0]; exact g11, by rw [e29, e28]; exact g12, by rw [e34]; exact g13, by rw [e6, e34]; exact g14, by rw [e32]; exact g15⟩
        · rw [r3]; split
          · exact Or.inl rfl
          · exact g1 k hk
        · rw [r2]; split
          · exact Or.inr ⟨o, rfl, ho64⟩
          · exact g2 k hk
        · rw [r2]
          rcases (eL n).mp hn with h1 | h1
          · by_cases hna : n = a
            · rw [if_pos hna]; exact Or.inr ⟨o, rfl, (eL o).mpr (Or.inr rfl)⟩
            · rw [if_neg hna]; exact (g3 n h1).imp (fun m hm => (eL m).mpr (Or.inl hm))
          · subst h1
            rw [if_neg (fun z => hao z.symm), hon, ← hch.1]
            exact (g3 a haL).imp (fun m hm => (eL m).mpr (Or.inl hm))
        · rw [r2] at e hne
          rw [r2] at e
          rcases (eL n).mp hn with h1 | h1
          · by_cases hna : n = a
            · rw [if_pos hna] at e
              rcases (eL m).mp hm with h2 | h2
              · by_cases hma : m = a
                · omega
                · rw [if_neg hma] at e; exact absurd e.symm (nL m h2)
              · rw [h2, if_neg (fun z => hao z.symm), hon, ← hch.1] at e
                exact absurd e.symm (nL a haL)
            · rw [if_neg hna] at e hne
              rcases (eL m).mp hm with h2 | h2
              · by_cases hma : m = a
                · rw [if_pos hma] at e; exact absurd e (nL n h1)
                · rw [if_neg hma] at e; exact g4 n m h1 h2 e hne
              · rw [h2, if_neg (fun z => hao z.symm), hon, ← hch.1] at e
                exact absurd (g4 n a h1 haL e hne) hna
          · rw [h1, if_neg (fun z => hao z.symm), hon, ← hch.1] at e hne
            rcases (eL m).mp hm with h2 | h2
            · by_cases hma : m = a
              · rw [if_pos hma] at e; exact absurd e (nL a haL)
              · rw [if_neg hma] at e
                exact absurd (g4 a m haL h2 e hne).symm hma
            · omega
        · rw [e0] at h2
          rw [r3, if_neg (fun z => by subst z; rw [haL.2.1] at h2; exact absurd h2 (by decide))]
          exact g5 k hk h2
        · rw [e1] at hev
          rw [r3]; split
          · rfl
          · rcases (eL n).mp hn with h1 | h1
            · exact g6 n h1 hev
            · subst h1; exact hom
        · rw [e31, e1]
          exact (g7 b hb).imp (fun n hn => ⟨(eL n).mpr (Or.inl hn.1), hn.2⟩)
        · rw [r22, e0]
          split
          · exact Or.inl rfl
          · exact g9 q hq
        · rw [r22] at e hne
          rw [r22] at e
          by_cases hap : a' = p
          · rw [if_pos hap] at hne; exact absurd rfl hne
          · rw [if_neg hap] at e hne
            by_cases hcp : c' = p
            · rw [if_pos hcp] at e; exact absurd e hne
            · rw [if_neg hcp] at e; exact g10 a' c' ha hc' e hne
      · refine ⟨fun n hn => Or.inl ((eL n).mpr (Or.inl hn)), fun n _ h2 _ _ _ => ⟨by rw [e0]; exact h2, by rw [e7]⟩, fun n _ _ => ⟨by rw [e6], by rw [e1]⟩, fun n hn _ h3 _ => ?_, fun n hn hoq => ?_, by rw [e34]; exact Int32.le_refl _⟩
        · have hna : n ≠ a := fun z => by subst z; rw [hch.2] at h3; exact absurd h3 (by decide)
          exact ⟨by rw [r3, if_neg hna]; exact h3, by rw [r2, if_neg hna]⟩
        · have hna : n ≠ a := fun z => by subst z; exact haL.2.2 ⟨q, hq, hoq⟩
          exact ⟨by rw [r2, if_neg hna], by rw [r3, if_neg hna]⟩
    by_cases hd : τ 30 p = 0
    · constructor
      · unfold fn_X4_putIn
        rw [hc, ea, eo, ech, if_neg (show ¬ ((1 : Int32) = 0) by decide)]
        show zr_I (N + 1) ((if (zs_u (zs_u (zs_u (zs_u (zs_u τ 2 a (nI o)) 3 a 0) 23 p ((zs_u (zs_u τ 2 a (nI o)) 3 a 0) 22 p)) 22 p (-1)) 10 p 9) 30 p = 0 then _ else _ : zs_O)).1
        rw [if_pos (show (zs_u (zs_u (zs_u (zs_u (zs_u τ 2 a (nI o)) 3 a 0) 23 p ((zs_u (zs_u τ 2 a (nI o)) 3 a 0) 22 p)) 22 p (-1)) 10 p 9) 30 p = 0 from hd)]
        obtain ⟨hG', eL, hK⟩ := main (zs_u (zs_u (zs_u (zs_u (zs_u (zs_u (zs_u τ 2 a (nI o)) 3 a 0) 23 p ((zs_u (zs_u τ 2 a (nI o)) 3 a 0) 22 p)) 22 p (-1)) 10 p 9) 33 0 (τ 33 0 + 1)) 10 p 13) (fun k => by simp [zs_u]) (fun k => by simp [zs_u]) (fun k => by simp [zs_u]) rfl rfl rfl rfl rfl rfl rfl rfl rfl
        refine ⟨zr_G_mono (by omega) hG', fun q hq => ?_⟩
        by_cases hqp : q = p
        · subst hqp
          refine zr_mk13 (d := d) (b := b) ⟨hB.1, hB.2.1, hB.2.2.1, hB.2.2.2.1, fun n hn e0 => ?_⟩ (by simp [zs_u]) hH
          have e0 : zs_u (zs_u (zs_u (zs_u (zs_u (zs_u (zs_u τ 2 a (nI o)) 3 a 0) 23 q ((zs_u (zs_u τ 2 a (nI o)) 3 a 0) 22 q)) 22 q (-1)) 10 q 9) 33 0 (τ 33 0 + 1)) 10 q 13 22 q = nI n := e0
          simp [zs_u] at e0
          exact absurd e0.symm (zq_m1 (by omega))
        · exact zr_P_keep hI.1 (hK q hq) (by simp [zr_Q, zs_u, hqp]) hq (hI.2 q hq)
      · unfold ok_X4_putIn
        simp only [hc, ea, eo, ech]
        simp [hv, hokc]
    · constructor
      · unfold fn_X4_putIn
        rw [hc, ea, eo, ech, if_neg (show ¬ ((1 : Int32) = 0) by decide), if_neg (show ¬ (zs_u (zs_u (zs_u (zs_u (zs_u τ 2 a (nI o)) 3 a 0) 23 p ((zs_u (zs_u τ 2 a (nI o)) 3 a 0) 22 p)) 22 p (-1)) 10 p 9) 30 p = 0 from hd)]
        show zr_I (N + 1) (zs_u (zs_u (zs_u (zs_u (zs_u τ 2 a (nI o)) 3 a 0) 23 p ((zs_u (zs_u τ 2 a (nI o)) 3 a 0) 22 p)) 22 p (-1)) 10 p 9)
        obtain ⟨hG', eL, hK⟩ := main (zs_u (zs_u (zs_u (zs_u (zs_u τ 2 a (nI o)) 3 a 0) 23 p ((zs_u (zs_u τ 2 a (nI o)) 3 a 0) 22 p)) 22 p (-1)) 10 p 9) (fun k => by simp [zs_u]) (fun k => by simp [zs_u]) (fun k => by simp [zs_u]) rfl rfl rfl rfl rfl rfl rfl rfl rfl
        refine ⟨zr_G_mono (by omega) hG', fun q hq => ?_⟩
        by_cases hqp : q = p
        · subst hqp
          refine zr_mk9 (d := d) (b := b) ⟨hB.1, hB.2.1, hB.2.2.1, hB.2.2.2.1, fun n hn e0 => ?_⟩ (by simp [zs_u]) hH (hf.imp (fun n hn => ⟨(eL n).mpr (Or.inl hn.1), hn.2⟩)) ⟨o, by simp [zs_u, eo], (eL o).mpr (Or.inr rfl), hB.2.2.2.2 o ho64 eo hd⟩ hd
          simp [zs_u] at e0
          exact absurd e0.symm (zq_m1 (by omega))
        · exact zr_P_keep hI.1 (hK q hq) (by simp [zr_Q, zs_u, hqp]) hq (hI.2 q hq)
      · unfold ok_X4_putIn
        simp only [hc, ea, eo, ech]
        simp [hv, hokc]
  · have ech : fn_X4_change τ (nI a) (τ 19 p) (nI o) 0 = (τ, 0) := zq_changeF hal hch
    constructor
    · unfold fn_X4_putIn
      rw [hc, ea, eo, ech, if_pos rfl]
      refine zr_loc (p := p) hI rfl rfl rfl rfl rfl rfl rfl rfl rfl rfl rfl rfl (fun q hq hne => by simp [zr_Q, zs_u, hne]) ?_
      exact zr_mk3 (zr_B_congr hB rfl rfl rfl rfl (fun _ _ => rfl) hB.2.2.1 hB.2.2.2.1 rfl) (by simp [zs_u]) hH (zr_D_of (τ := τ) rfl rfl rfl hf)
    · unfold ok_X4_putIn
      simp only [hc, ea, eo, ech]
      simp [hv, hokc]
