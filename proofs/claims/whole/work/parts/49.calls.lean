/-! the calls: both sides answer alike and stay alike -/
theorem zr_E35 {σ τ : zs_T} {v : Int32} (h : zr_E σ τ) : zr_E σ (zs_u τ 35 0 v) := by
  obtain ⟨⟨en, rest⟩, e1⟩ := h
  exact ⟨⟨fun c k hc hk => by rw [zs_uc (by omega)]; exact en c k hc hk, rest⟩, e1⟩
theorem zr_I35 {N : Nat} {τ : zs_T} {v : Int32} (h : zr_I N τ) : zr_I N (zs_u τ 35 0 v) :=
  ⟨zr_G_congr h.1 rfl rfl rfl rfl rfl rfl rfl rfl rfl rfl rfl, fun q hq => zr_P_keep h.1 (zr_K_of rfl rfl rfl rfl rfl rfl rfl rfl) (by simp [zr_Q, zs_u]) hq (h.2 q hq)⟩
theorem zr_Imono {N M : Nat} {τ : zs_T} (hNM : N ≤ M) (h : zr_I N τ) : zr_I M τ := ⟨zr_G_mono hNM h.1, h.2⟩
theorem zf_in {σ : zs_T} {x lo hi : Int32} : fr_X4_in σ x lo hi = 0 ↔ (x < lo ∨ hi < x) := by
  unfold fr_X4_in
  by_cases h1 : x < lo
  · simp [h1]
  · by_cases h2 : hi < x
    · simp [h2]
    · simp [h1, h2]
theorem zf_pr {σ : zs_T} {x : Int32} : fr_X3_isProcess σ x = 0 ↔ (x < 0 ∨ 3 < x) := by
  unfold fr_X3_isProcess
  by_cases h1 : x < 0
  · simp [h1]
  · by_cases h2 : x < 4
    · have : ¬ 3 < x := by rw [Int32.lt_iff_toInt_lt] at h2 ⊢; have : (3 : Int32).toInt = 3 := rfl; have : (4 : Int32).toInt = 4 := rfl; omega
      simp [h1, h2, this]
    · have : 3 < x := by rw [Int32.lt_iff_toInt_lt] at h2 ⊢; have : (3 : Int32).toInt = 3 := rfl; have : (4 : Int32).toInt = 4 := rfl; omega
      simp [h2, this]
theorem zf_nd {σ : zs_T} {x : Int32} : fr_X3_isNode σ x = 0 ↔ (x < 0 ∨ 63 < x) := by
  unfold fr_X3_isNode
  by_cases h1 : x < 0
  · simp [h1]
  · by_cases h2 : x < 64
    · have : ¬ 63 < x := by rw [Int32.lt_iff_toInt_lt] at h2 ⊢; have : (63 : Int32).toInt = 63 := rfl; have : (64 : Int32).toInt = 64 := rfl; omega
      simp [h1, h2, this]
    · have : 63 < x := by rw [Int32.lt_iff_toInt_lt] at h2 ⊢; have : (63 : Int32).toInt = 63 := rfl; have : (64 : Int32).toInt = 64 := rfl; omega
      simp [h2, this]
theorem zf_bk {σ : zs_T} {x : Int32} : fr_X3_isBucket σ x = 0 ↔ (x < 0 ∨ 15 < x) := by
  unfold fr_X3_isBucket
  by_cases h1 : x < 0
  · simp [h1]
  · by_cases h2 : x < 16
    · have : ¬ 15 < x := by rw [Int32.lt_iff_toInt_lt] at h2 ⊢; have : (15 : Int32).toInt = 15 := rfl; have : (16 : Int32).toInt = 16 := rfl; omega
      simp [h1, h2, this]
    · have : 15 < x := by rw [Int32.lt_iff_toInt_lt] at h2 ⊢; have : (15 : Int32).toInt = 15 := rfl; have : (16 : Int32).toInt = 16 := rfl; omega
      simp [h2, this]
/-- a number between 0 and hi is a small natural -/
theorem zf_of {x hi : Int32} {n : Nat} (hh : hi.toInt = n) (h : ¬ (x < 0 ∨ hi < x)) : ∃ k, k ≤ n ∧ x = nI k := by
  have h0 : ¬ x < 0 := fun z => h (Or.inl z)
  have h1 : ¬ hi < x := fun z => h (Or.inr z)
  obtain ⟨j, hj, e⟩ := nI_of h0
  refine ⟨j, ?_, e⟩
  rw [Int32.lt_iff_toInt_lt, e, nI_toInt hj, hh] at h1
  omega
theorem zf_start {N : Nat} {σ τ : zs_T} (hE : zr_E σ τ) (hI : zr_I N τ) (x1 x2 x3 x4 : Int32) : (fn_X3_start σ x1 x2 x3 x4).2 = (fn_X4_start τ x1 x2 x3 x4).2 ∧ zr_E (fn_X3_start σ x1 x2 x3 x4).1 (fn_X4_start τ x1 x2 x3 x4).1 ∧ zr_I N (fn_X4_start τ x1 x2 x3 x4).1 ∧ ok_X4_start τ x1 x2 x3 x4 := by
  have hE0 : zr_E σ (zs_u τ 35 0 0) := zr_E35 hE
  have hI0 : zr_I N (zs_u τ 35 0 0) := zr_I35 hI
  by_cases hp : x1 < 0 ∨ 3 < x1
  · have hσ : fn_X3_start σ x1 x2 x3 x4 = (σ, 0) := by unfold fn_X3_start; rw [if_pos (zf_pr.mpr hp)]
    have hτ : fn_X4_start τ x1 x2 x3 x4 = (zs_u τ 35 0 0, 0) := by unfold fn_X4_start; rw [if_pos (zf_in.mpr hp)]
    refine ⟨by rw [hσ, hτ], by rw [hσ, hτ]; exact hE0, by rw [hτ]; exact hI0, ?_⟩
    unfold ok_X4_start
    exact ⟨fun _ => trivial, fun z => absurd (zf_in.mpr hp) z⟩
  · obtain ⟨p, hp3, rfl⟩ := zf_of (n := 3) rfl hp
    have hp4 : p < 4 := by omega
    have hc : (nI p).toNatClampNeg = p := zq_c (by omega)
    have hv : vp_in (nI p) 4 := zq_in hp4 (by decide)
    have hnp : ¬ fr_X3_isProcess σ (nI p) = 0 := fun z => hp (zf_pr.mp z)
    have hnm : ¬ fr_X4_in (zs_u τ 35 0 0) (nI p) 0 3 = 0 := fun z => hp (zf_in.mp z)
    obtain ⟨p10, p11, p12, p13, p14, p15, p16, p21, p22, p24, p26, p30, p29⟩ := hE.1.2.2.2.1 p hp4
    have okall : ok_X4_start τ (nI p) x2 x3 x4 := by
      unfold ok_X4_start
      simp [hv]
    by_cases h10 : τ 10 p = 0
    · have h10' : σ 10 p = 0 := p10.trans h10
      by_cases hall : ¬ (x2 < 0 ∨ 2 < x2) ∧ ¬ (x3 < 0 ∨ 255 < x3) ∧ ¬ (x4 < 0 ∨ 1000000 < x4)
      · obtain ⟨a2, a3, a4⟩ := hall
        have b3 : x3 < 256 := by
          have : ¬ 255 < x3 := fun z => a3 (Or.inr z)
          rw [Int32.lt_iff_toInt_lt] at this ⊢
          have : (255 : Int32).toInt = 255 := rfl
          have : (256 : Int32).toInt = 256 := rfl
          omega
        have hσ : fn_X3_start σ (nI p) x2 x3 x4 = (zs_u (zs_u (zs_u (zs_u (zs_u σ 11 p x2) 12 p x3) 13 p x4) 24 p 0) 10 p 1, 1) := by
          unfold fn_X3_start
          rw [if_neg hnp, if_neg (fun z => a2 (Or.inl z)), if_neg (fun z => a2 (Or.inr z)), if_neg (fun z => a3 (Or.inl z)), if_pos b3, if_neg (fun z => a4 (Or.inl z)), if_neg (fun z => a4 (Or.inr z)), hc, if_pos h10']
          rfl
        have hτ : fn_X4_start τ (nI p) x2 x3 x4 = (zs_u (zs_u (zs_u (zs_u (zs_u (zs_u (zs_u (zs_u (zs_u (zs_u (zs_u τ 35 0 0) 10 p 1) 11 p x2) 12 p x3) 13 p x4) 30 p 0) 18 p (-1)) 19 p (-1)) 20 p (-1)) 22 p (-1)) 24 p 0, 1) := by
          unfold fn_X4_start
          rw [if_neg hnm, hc, if_pos (show zs_u τ 35 0 0 10 p = 0 from h10), if_neg (fun z => a2 (zf_in.mp z)), if_neg (fun z => a3 (zf_in.mp z)), if_neg (fun z => a4 (zf_in.mp z))]
        obtain ⟨d, b, hB, -, hd0⟩ := (hI.2 p hp4).B
        have hd0 := hd0 h10
        subst hd0
        have ho := (hI.2 p hp4).o0 h10
        obtain ⟨k, hk, rfl⟩ := zf_of (n := 255) rfl a3
        obtain ⟨q1, q2, q3, q4, q5⟩ := hE.2 p hp4
        have q2 := q2 h10
        have e30 : τ 30 p = 0 := hB.2.1.2.1.trans nI_0
        refine ⟨by rw [hσ, hτ], ?_, ?_, okall⟩
        · rw [hσ, hτ]
          obtain ⟨⟨en, eb, ⟨e32, e33, e34⟩, ep, est, erow⟩, e1⟩ := id hE
          refine zr_E_up (p := p) hE hp4 ?_ ?_ ?_ ?_ ?_ ?_ ?_ ?_ ?_
          · intro c k' hc8 hk64
            have ee := en c k' hc8 hk64
            rcases (show c = 0 ∨ c = 1 ∨ c = 2 ∨ c = 3 ∨ c = 4 ∨ c = 5 ∨ c = 6 ∨ c = 7 by omega) with rfl | rfl | rfl | rfl | rfl | rfl | rfl | rfl <;> simp [zs_u, ee]
          · intro b0 hb0; simp [zs_u, eb b0 hb0]
          · simp [zs_u, e32, e33, e34]
          · intro q hq hne
            have f6 : ¬ 4 + q = p := by omega
            simp [zr_VC, zs_u, hne, f6, zs_n1, zs_n2, zs_n3, zs_n4]
          · intro q hq hne; simp [zr_VM, zs_u, hne]
          · simp [zs_u, p14, p15, p16, p21, p26, p29, q2, p30, e30]
          · intro j hj hlt; simp [zs_u] at hlt; exact absurd hlt (by rw [← nI_0, nI_ltI (by omega) (by omega)]; omega)
          · intro j hj hlt; have := erow p j hp4 hj (by simpa [zs_u] using hlt); simpa [zs_u, zs_n1, zs_n2] using this
          · exact ⟨fun _ => by simp [zs_u, q2], fun z => by simp [zs_u] at z, fun z => by simp [zs_u] at z, fun z => by simp [zs_u] at z, fun z => by simp [zs_u] at z⟩
        · rw [hτ]
          have e22 : zs_u (zs_u (zs_u (zs_u (zs_u (zs_u (zs_u (zs_u (zs_u (zs_u (zs_u τ 35 0 0) 10 p 1) 11 p x2) 12 p (nI k)) 13 p x4) 30 p 0) 18 p (-1)) 19 p (-1)) 20 p (-1)) 22 p (-1)) 24 p 0 22 = τ 22 := by
            funext q
            by_cases hq : q = p
            · subst hq; simp [zs_u, ho]
            · simp [zs_u, hq]
          refine ⟨zr_G_congr hI.1 rfl rfl rfl rfl rfl e22 rfl rfl rfl rfl rfl, fun q hq => ?_⟩
          by_cases hqp : q = p
          · subst hqp
            refine zr_mk1 (d := 0) (b := b) ⟨⟨k, by omega, by simp [zs_u]⟩, ⟨by omega, by simp [zs_u, nI_0], hB.2.1.2.2.1, by simpa [zs_u] using hB.2.1.2.2.2.1, fun j hj => absurd hj (by omega)⟩, by simpa [zs_u] using hB.2.2.1, Or.inl (by simp [zs_u]), fun n hn e0 => ?_⟩ (by simp [zs_u]) (by simp [zs_u])
            have e0 : τ 22 q = nI n := (congrFun e22 q).symm.trans e0
            rw [ho] at e0
            exact absurd e0.symm (zq_m1 (by omega))
          · exact zr_P_keep hI.1 (zr_K_of rfl rfl rfl rfl rfl rfl e22 rfl) (by simp [zr_Q, zs_u, hqp]) hq (hI.2 q hq)
      · have hσ : fn_X3_start σ (nI p) x2 x3 x4 = (σ, 0) := by
          unfold fn_X3_start
          rw [if_neg hnp]
          by_cases c1 : x2 < 0
          · rw [if_pos c1]
          · rw [if_neg c1]
            by_cases c2 : 2 < x2
            · rw [if_pos c2]
            · rw [if_neg c2]
              by_cases c3 : x3 < 0
              · rw [if_pos c3]
              · rw [if_neg c3]
                by_cases c4 : x3 < 256
                · rw [if_pos c4]
                  by_cases c5 : x4 < 0
                  · rw [if_pos c5]
                  · rw [if_neg c5]
                    by_cases c6 : 1000000 < x4
                    · rw [if_pos c6]
                    · refine absurd ⟨fun z => ?_, fun z => ?_, fun z => ?_⟩ hall
                      · rcases z with z | z; exact c1 z; exact c2 z
                      · rcases z with z | z
                        · exact c3 z
                        · rw [Int32.lt_iff_toInt_lt] at z c4
                          have : (255 : Int32).toInt = 255 := rfl
                          have : (256 : Int32).toInt = 256 := rfl
                          omega
                      · rcases z with z | z; exact c5 z; exact c6 z
                · rw [if_neg c4]
        have hτ : fn_X4_start τ (nI p) x2 x3 x4 = (zs_u τ 35 0 0, 0) := by
          unfold fn_X4_start
          rw [if_neg hnm, hc, if_pos (show zs_u τ 35 0 0 10 p = 0 from h10)]
          by_cases c1 : fr_X4_in (zs_u τ 35 0 0) x2 0 2 = 0
          · rw [if_pos c1]
          · rw [if_neg c1]
            by_cases c2 : fr_X4_in (zs_u τ 35 0 0) x3 0 255 = 0
            · rw [if_pos c2]
            · rw [if_neg c2]
              by_cases c3 : fr_X4_in (zs_u τ 35 0 0) x4 0 1000000 = 0
              · rw [if_pos c3]
              · exact absurd ⟨fun z => c1 (zf_in.mpr z), fun z => c2 (zf_in.mpr z), fun z => c3 (zf_in.mpr z)⟩ hall
        exact ⟨by rw [hσ, hτ], by rw [hσ, hτ]; exact hE0, by rw [hτ]; exact hI0, okall⟩
    · have h10' : ¬ σ 10 p = 0 := fun z => h10 (p10.symm.trans z)
      have hσ : fn_X3_start σ (nI p) x2 x3 x4 = (σ, 0) := by
        unfold fn_X3_start
        rw [hc, if_neg hnp, if_neg h10']
        repeat' split
        all_goals rfl
      have hτ : fn_X4_start τ (nI p) x2 x3 x4 = (zs_u τ 35 0 0, 0) := by
        unfold fn_X4_start
        rw [if_neg hnm, hc, if_neg (show ¬ zs_u τ 35 0 0 10 p = 0 from h10)]
      exact ⟨by rw [hσ, hτ], by rw [hσ, hτ]; exact hE0, by rw [hτ]; exact hI0, okall⟩
theorem zf_step {N : Nat} {σ τ : zs_T} (hE : zr_E σ τ) (hI : zr_I N τ) (hN : N < 1000000) (x1 : Int32) : (fn_X3_step σ x1).2 = (fn_X4_step τ x1).2 ∧ zr_E (fn_X3_step σ x1).1 (fn_X4_step τ x1).1 ∧ zr_I (N + 1) (fn_X4_step τ x1).1 ∧ ok_X3_step σ x1 ∧ ok_X4_step τ x1 := by
  have hE0 : zr_E σ (zs_u τ 35 0 0) := zr_E35 hE
  have hI0 : zr_I N (zs_u τ 35 0 0) := zr_I35 hI
  by_cases hp : x1 < 0 ∨ 3 < x1
  · have hσ : fn_X3_step σ x1 = (σ, -1) := by unfold fn_X3_step; rw [if_pos (zf_pr.mpr hp)]
    have hτ : fn_X4_step τ x1 = (zs_u τ 35 0 0, -1) := by unfold fn_X4_step; rw [if_pos (zf_in.mpr hp)]
    refine ⟨by rw [hσ, hτ], by rw [hσ, hτ]; exact hE0, by rw [hτ]; exact zr_Imono (by omega) hI0, ⟨fun _ => trivial, fun z => absurd (zf_pr.mpr hp) z⟩, ⟨fun _ => trivial, fun z => absurd (zf_in.mpr hp) z⟩⟩
  · obtain ⟨p, hp3, rfl⟩ := zf_of (n := 3) rfl hp
    have hp4 : p < 4 := by omega
    have hc : (nI p).toNatClampNeg = p := zq_c (by omega)
    have hv : vp_in (nI p) 4 := zq_in hp4 (by decide)
    have hnp : ¬ fr_X3_isProcess σ (nI p) = 0 := fun z => hp (zf_pr.mp z)
    have hnm : ¬ fr_X4_in (zs_u τ 35 0 0) (nI p) 0 3 = 0 := fun z => hp (zf_in.mp z)
    obtain ⟨s1, s2⟩ := ze_step hE0 hI0 hN hp4
    obtain ⟨t1, t2⟩ := zi_step hI0 hN hp4
    have hσ : fn_X3_step σ (nI p) = ((fn_X3_advance σ p).1, (fn_X3_advance σ p).1 10 p) := by unfold fn_X3_step; rw [if_neg hnp, hc]
    have hτ : fn_X4_step τ (nI p) = ((fn_X4_oneStep (zs_u τ 35 0 0) (nI p)).1, (fn_X4_oneStep (zs_u τ 35 0 0) (nI p)).1 10 p) := by unfold fn_X4_step; rw [if_neg hnm, hc]
    refine ⟨by rw [hσ, hτ]; exact (s1.1.2.2.2.1 p hp4).1, by rw [hσ, hτ]; exact s1, by rw [hτ]; exact t1, ⟨fun _ => trivial, fun _ => ⟨by rw [hc]; exact s2, trivial⟩⟩, ?_⟩
    unfold ok_X4_step
    exact ⟨fun _ => trivial, fun _ => ⟨t2, hv, trivial⟩⟩
theorem zf_runL {n p : Nat} (hn : n ≤ 1000) (hp : p < 4) : ∀ f N i (σ τ : zs_T), zr_E σ τ → zr_I N τ → N + (n - i) < 1000000 → i ≤ n → n < f + i → (fn_X3_run_L30 f σ (nI n) p (nI i)).2 = (fn_X4_run_L29 f τ (nI p) (nI n) (nI i)).2 ∧ zr_E (fn_X3_run_L30 f σ (nI n) p (nI i)).1 (fn_X4_run_L29 f τ (nI p) (nI n) (nI i)).1 ∧ zr_I (N + (n - i)) (fn_X4_run_L29 f τ (nI p) (nI n) (nI i)).1 ∧ ok_X3_run_L30 f σ (nI n) p (nI i) ∧ ok_X4_run_L29 f τ (nI p) (nI n) (nI i) := by
  have hc : (nI p).toNatClampNeg = p := zq_c (by omega)
  have hv : vp_in (nI p) 4 := zq_in hp (by decide)
  intro f
  induction f with
  | zero => intro N i σ τ _ _ _ h1 h2; omega
  | succ f ih =>
    intro N i σ τ hE hI hN h1 h2
    have p10 := (hE.1.2.2.2.1 p hp).1
    by_cases hi : i < n
    · have hlt : nI i < nI n := by rw [nI_ltI (by omega) (by omega)]; exact hi
      by_cases h10 : τ 10 p = 0
      · have h10' : σ 10 p = 0 := p10.trans h10
        have hσ : fn_X3_run_L30 (f + 1) σ (nI n) p (nI i) = (σ, nI i) := by rw [fn_X3_run_L30, if_pos hlt, if_pos h10']
        have hτ : fn_X4_run_L29 (f + 1) τ (nI p) (nI n) (nI i) = (τ, nI i) := by rw [fn_X4_run_L29, if_pos hlt, hc, if_pos h10]
        refine ⟨by rw [hσ, hτ], by rw [hσ, hτ]; exact hE, by rw [hτ]; exact zr_Imono (by omega) hI, ?_, ?_⟩
        · rw [ok_X3_run_L30]; exact ⟨fun _ => ⟨fun _ => trivial, fun z => absurd h10' z⟩, fun z => absurd hlt z⟩
        · rw [ok_X4_run_L29, hc]; exact ⟨fun _ => ⟨hv, fun _ => trivial, fun z => absurd h10 z⟩, fun z => absurd hlt z⟩
      · have h10' : ¬ σ 10 p = 0 := fun z => h10 (p10.symm.trans z)
        obtain ⟨s1, s2⟩ := ze_step hE hI (by omega) hp
        obtain ⟨t1, t2⟩ := zi_step hI (by omega) hp
        obtain ⟨a1, a2, a3, a4, a5⟩ := ih (N + 1) (i + 1) _ _ s1 t1 (by omega) (by omega) (by omega)
        have hσ : fn_X3_run_L30 (f + 1) σ (nI n) p (nI i) = fn_X3_run_L30 f (fn_X3_advance σ p).1 (nI n) p (nI (i + 1)) := by rw [fn_X3_run_L30, if_pos hlt, if_neg h10', nI_1]
        have hτ : fn_X4_run_L29 (f + 1) τ (nI p) (nI n) (nI i) = fn_X4_run_L29 f (fn_X4_oneStep τ (nI p)).1 (nI p) (nI n) (nI (i + 1)) := by rw [fn_X4_run_L29, if_pos hlt, hc, if_neg h10, nI_1]
        refine ⟨by rw [hσ, hτ]; exact a1, by rw [hσ, hτ]; exact a2, by rw [hτ]; exact zr_Imono (by omega) a3, ?_, ?_⟩
        · rw [ok_X3_run_L30, nI_1]; exact ⟨fun _ => ⟨fun z => absurd z h10', fun _ => ⟨s2, a4⟩⟩, fun z => absurd hlt z⟩
        · rw [ok_X4_run_L29, hc, nI_1]; exact ⟨fun _ => ⟨hv, fun z => absurd z h10, fun _ => ⟨t2, a5⟩⟩, fun z => absurd hlt z⟩
    · have : i = n := by omega
      subst this
      have hnl : ¬ nI i < nI i := by rw [nI_ltI (by omega) (by omega)]; omega
      have hσ : fn_X3_run_L30 (f + 1) σ (nI i) p (nI i) = (σ, nI i) := by rw [fn_X3_run_L30, if_neg hnl]
      have hτ : fn_X4_run_L29 (f + 1) τ (nI p) (nI i) (nI i) = (τ, nI i) := by rw [fn_X4_run_L29, if_neg hnl]
      refine ⟨by rw [hσ, hτ], by rw [hσ, hτ]; exact hE, by rw [hτ]; exact zr_Imono (by omega) hI, ?_, ?_⟩
      · rw [ok_X3_run_L30]; exact ⟨fun z => absurd z hnl, fun _ => trivial⟩
      · rw [ok_X4_run_L29]; exact ⟨fun z => absurd z hnl, fun _ => trivial⟩
theorem zf_run {N : Nat} {σ τ : zs_T} (hE : zr_E σ τ) (hI : zr_I N τ) (hN : N + 1000 < 1000000) (x1 x2 : Int32) : (fn_X3_run σ x1 x2).2 = (fn_X4_run τ x1 x2).2 ∧ zr_E (fn_X3_run σ x1 x2).1 (fn_X4_run τ x1 x2).1 ∧ zr_I (N + 1000) (fn_X4_run τ x1 x2).1 ∧ ok_X3_run σ x1 x2 ∧ ok_X4_run τ x1 x2 := by
  have hE0 : zr_E σ (zs_u τ 35 0 0) := zr_E35 hE
  have hI0 : zr_I N (zs_u τ 35 0 0) := zr_I35 hI
  by_cases hp : x1 < 0 ∨ 3 < x1
  · have hσ : fn_X3_run σ x1 x2 = (σ, -1) := by unfold fn_X3_run; rw [if_pos (zf_pr.mpr hp)]
    have hτ : fn_X4_run τ x1 x2 = (zs_u τ 35 0 0, -1) := by unfold fn_X4_run; rw [if_pos (zf_in.mpr hp)]
    refine ⟨by rw [hσ, hτ], by rw [hσ, hτ]; exact hE0, by rw [hτ]; exact zr_Imono (by omega) hI0, ⟨fun _ => trivial, fun z => absurd (zf_pr.mpr hp) z⟩, ?_⟩
    unfold ok_X4_run
    exact ⟨fun _ => trivial, fun z => absurd (zf_in.mpr hp) z⟩
  · have hnp : ¬ fr_X3_isProcess σ x1 = 0 := fun z => hp (zf_pr.mp z)
    have hnm : ¬ fr_X4_in (zs_u τ 35 0 0) x1 0 3 = 0 := fun z => hp (zf_in.mp z)
    by_cases hx : x2 < 0 ∨ 1000 < x2
    · have hσ : fn_X3_run σ x1 x2 = (σ, -1) := by
        unfold fn_X3_run
        rw [if_neg hnp]
        by_cases c1 : x2 < 0
        · rw [if_pos c1]
        · rw [if_neg c1, if_pos (hx.resolve_left c1)]
      have hτ : fn_X4_run τ x1 x2 = (zs_u τ 35 0 0, -1) := by unfold fn_X4_run; rw [if_neg hnm, if_pos (zf_in.mpr hx)]
      refine ⟨by rw [hσ, hτ], by rw [hσ, hτ]; exact hE0, by rw [hτ]; exact zr_Imono (by omega) hI0, ?_, ?_⟩
      · unfold ok_X3_run
        refine ⟨fun _ => trivial, fun _ => ⟨fun _ => trivial, fun c1 => ⟨fun _ => trivial, fun c2 => ?_⟩⟩⟩
        rcases hx with z | z
        · exact absurd z c1
        · exact absurd z c2
      · unfold ok_X4_run
        exact ⟨fun _ => trivial, fun _ => ⟨fun _ => trivial, fun z => absurd (zf_in.mpr hx) z⟩⟩
    · obtain ⟨p, hp3, rfl⟩ := zf_of (n := 3) rfl hp
      obtain ⟨n, hn, rfl⟩ := zf_of (n := 1000) rfl hx
      have hc : (nI p).toNatClampNeg = p := zq_c (by omega)
      obtain ⟨a1, a2, a3, a4, a5⟩ := zf_runL hn (show p < 4 by omega) 1001 N 0 σ _ hE0 hI0 (by omega) (by omega) (by omega)
      rw [nI_0] at a1 a2 a3 a4 a5
      have hσ : fn_X3_run σ (nI p) (nI n) = fn_X3_run_L30 1001 σ (nI n) p 0 := by unfold fn_X3_run; rw [if_neg hnp, if_neg (fun z => hx (Or.inl z)), if_neg (fun z => hx (Or.inr z)), hc]
      have hτ : fn_X4_run τ (nI p) (nI n) = fn_X4_run_L29 1001 (zs_u τ 35 0 0) (nI p) (nI n) 0 := by unfold fn_X4_run; rw [if_neg hnm, if_neg (fun z => hx (zf_in.mp z))]
      refine ⟨by rw [hσ, hτ]; exact a1, by rw [hσ, hτ]; exact a2, by rw [hτ]; exact zr_Imono (by omega) a3, ?_, ?_⟩
      · unfold ok_X3_run
        rw [hc]
        exact ⟨fun _ => trivial, fun _ => ⟨fun _ => trivial, fun _ => ⟨fun _ => trivial, fun _ => a4⟩⟩⟩
      · unfold ok_X4_run
        exact ⟨fun _ => trivial, fun _ => ⟨fun _ => trivial, fun _ => a5⟩⟩
