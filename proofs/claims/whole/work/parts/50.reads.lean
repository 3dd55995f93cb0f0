/-! the read-outs -/
theorem zf_bucket {N : Nat} {σ τ : zs_T} (hE : zr_E σ τ) (hI : zr_I N τ) (x1 : Int32) : fr_X3_bucket σ x1 = (fn_X4_bucket τ x1).2 ∧ zr_E σ (fn_X4_bucket τ x1).1 ∧ zr_I N (fn_X4_bucket τ x1).1 ∧ ok_X4_bucket τ x1 := by
  have hE0 : zr_E σ (zs_u τ 35 0 0) := zr_E35 hE
  have hI0 : zr_I N (zs_u τ 35 0 0) := zr_I35 hI
  by_cases hp : x1 < 0 ∨ 15 < x1
  · have hσ : fr_X3_bucket σ x1 = -1 := by unfold fr_X3_bucket fr_X3_nodeOfBucket; rw [if_pos (zf_bk.mpr hp)]
    have hτ : fn_X4_bucket τ x1 = (zs_u τ 35 0 0, -1) := by unfold fn_X4_bucket; rw [if_pos (zf_in.mpr hp)]
    exact ⟨by rw [hσ, hτ], by rw [hτ]; exact hE0, by rw [hτ]; exact hI0, ⟨fun _ => trivial, fun z => absurd (zf_in.mpr hp) z⟩⟩
  · obtain ⟨p, hp3, rfl⟩ := zf_of (n := 15) rfl hp
    have hc : (nI p).toNatClampNeg = p := zq_c (by omega)
    have hv : vp_in (nI p) 16 := zq_in (by omega) (by decide)
    have hσ : fr_X3_bucket σ (nI p) = σ 31 p := zd_nob (by omega)
    have hτ : fn_X4_bucket τ (nI p) = (zs_u τ 35 0 0, τ 31 p) := by unfold fn_X4_bucket; rw [if_neg (fun z => hp (zf_in.mp z)), hc]; rfl
    exact ⟨by rw [hσ, hτ]; exact hE.1.2.1 p (by omega), by rw [hτ]; exact hE0, by rw [hτ]; exact hI0, ⟨fun _ => trivial, fun _ => ⟨hv, trivial⟩⟩⟩
theorem zf_totL {σ τ : zs_T} (hE : ∀ k, k < 64 → σ 0 k = τ 0 k) (x1 w : Int32) (hw : (x1 = 3 ∧ w = 0) ∨ (¬ x1 = 3 ∧ w = 2)) : ∀ f i a, i ≤ 64 → 64 < f + i → fn_X4_total_L50 f τ x1 a (nI i) = (τ, fr_X3_countNodes_L4 f σ w a (nI i)) ∧ ok_X3_countNodes_L4 f σ w a (nI i) ∧ ok_X4_total_L50 f τ x1 a (nI i) := by
  intro f
  induction f with
  | zero => intro i a h1 h2; omega
  | succ f ih =>
    intro i a h1 h2
    have hci : (nI i).toNatClampNeg = i := zq_c (by omega)
    by_cases hi : i < 64
    · have hlt : nI i < 64 := by rw [show (64 : Int32) = nI 64 from rfl, nI_ltI (by omega) (by omega)]; exact hi
      have hvi : vp_in (nI i) 64 := zq_in hi (by decide)
      obtain ⟨a1, a2, a3⟩ := ih (i + 1) a (by omega) (by omega)
      obtain ⟨b1, b2, b3⟩ := ih (i + 1) (a + 1) (by omega) (by omega)
      refine ⟨?_, ?_, ?_⟩
      · rw [fn_X4_total_L50, fr_X3_countNodes_L4, hci, if_pos hlt, if_pos hlt, hE i hi, nI_1]
        rcases hw with ⟨h3, hw⟩ | ⟨h3, hw⟩
        · rw [if_pos h3, hw]
          subst hw
          by_cases h0 : τ 0 i = 0
          · rw [if_pos h0, if_pos h0]; exact b1
          · rw [if_neg h0, if_neg h0]; exact a1
        · rw [if_neg h3, hw]
          subst hw
          by_cases h0 : τ 0 i = 2
          · rw [if_pos h0, if_pos h0]; exact b1
          · rw [if_neg h0, if_neg h0]; exact a1
      · rw [ok_X3_countNodes_L4]
        simp only [hci, nI_1]
        simp [hvi, a2, b2]
      · rw [ok_X4_total_L50]
        simp only [hci, nI_1]
        simp [hvi, a3, b3]
    · have : i = 64 := by omega
      subst this
      refine ⟨?_, ?_, ?_⟩
      · rw [fn_X4_total_L50, fr_X3_countNodes_L4, if_neg (by decide), if_neg (by decide)]
      · rw [ok_X3_countNodes_L4]; exact ⟨fun z => absurd z (by decide), fun _ => trivial⟩
      · rw [ok_X4_total_L50]; exact ⟨fun z => absurd z (by decide), fun _ => trivial⟩
theorem zf_total {N : Nat} {σ τ : zs_T} (hE : zr_E σ τ) (hI : zr_I N τ) (x1 : Int32) : fr_X3_total σ x1 = (fn_X4_total τ x1).2 ∧ zr_E σ (fn_X4_total τ x1).1 ∧ zr_I N (fn_X4_total τ x1).1 ∧ ok_X3_total σ x1 ∧ ok_X4_total τ x1 := by
  have hE0 : zr_E σ (zs_u τ 35 0 0) := zr_E35 hE
  have hI0 : zr_I N (zs_u τ 35 0 0) := zr_I35 hI
  obtain ⟨e32, e33, e34⟩ := hE.1.2.2.1
  have en : ∀ k, k < 64 → σ 0 k = zs_u τ 35 0 0 0 k := fun k hk => hE.1.1 0 k (by decide) hk
  have L3 := fun (y : Int32) (hy : y = 3) => zf_totL (σ := σ) (τ := zs_u τ 35 0 0) en y 0 (Or.inl ⟨hy, rfl⟩) 65 0 0 (by omega) (by omega)
  have L4 := fun (y : Int32) (hy : ¬ y = 3) => zf_totL (σ := σ) (τ := zs_u τ 35 0 0) en y 2 (Or.inr ⟨hy, rfl⟩) 65 0 0 (by omega) (by omega)
  rw [nI_0] at L3 L4
  unfold fr_X3_total fn_X4_total ok_X3_total ok_X4_total
  by_cases h0 : x1 = 0
  · simp only [if_pos h0]
    exact ⟨e32, hE0, hI0, ⟨fun _ => trivial, fun z => absurd h0 z⟩, ⟨fun _ => trivial, fun z => absurd h0 z⟩⟩
  · simp only [if_neg h0]
    by_cases h1 : x1 = 1
    · simp only [if_pos h1]
      exact ⟨e33, hE0, hI0, ⟨fun _ => trivial, fun _ => ⟨fun _ => trivial, fun z => absurd h1 z⟩⟩, ⟨fun _ => trivial, fun _ => ⟨fun _ => trivial, fun z => absurd h1 z⟩⟩⟩
    · simp only [if_neg h1]
      by_cases h2 : x1 = 2
      · simp only [if_pos h2]
        exact ⟨e34, hE0, hI0, ⟨fun _ => trivial, fun _ => ⟨fun _ => trivial, fun _ => ⟨fun _ => trivial, fun z => absurd h2 z⟩⟩⟩, ⟨fun _ => trivial, fun _ => ⟨fun _ => trivial, fun _ => ⟨fun _ => trivial, fun z => absurd h2 z⟩⟩⟩⟩
      · simp only [if_neg h2]
        by_cases h3 : x1 = 3
        · obtain ⟨a1, a2, a3⟩ := L3 x1 h3
          simp only [if_pos h3]
          rw [a1]
          exact ⟨rfl, hE0, hI0, ⟨fun _ => trivial, fun _ => ⟨fun _ => trivial, fun _ => ⟨fun _ => trivial, fun _ => ⟨fun _ => ⟨a2, trivial⟩, fun z => absurd h3 z⟩⟩⟩⟩, ⟨fun _ => trivial, fun _ => ⟨fun _ => trivial, fun _ => ⟨fun _ => trivial, fun _ => ⟨fun _ => a3, fun z => absurd h3 z⟩⟩⟩⟩⟩
        · obtain ⟨a1, a2, a3⟩ := L4 x1 h3
          simp only [if_neg h3]
          by_cases h4 : x1 = 4
          · simp only [if_pos h4]
            rw [a1]
            exact ⟨rfl, hE0, hI0, ⟨fun _ => trivial, fun _ => ⟨fun _ => trivial, fun _ => ⟨fun _ => trivial, fun _ => ⟨fun z => absurd z h3, fun _ => ⟨fun _ => ⟨a2, trivial⟩, fun z => absurd h4 z⟩⟩⟩⟩⟩, ⟨fun _ => trivial, fun _ => ⟨fun _ => trivial, fun _ => ⟨fun _ => trivial, fun _ => ⟨fun z => absurd z h3, fun _ => ⟨fun _ => a3, fun z => absurd h4 z⟩⟩⟩⟩⟩⟩
          · simp only [if_neg h4]
            exact ⟨trivial, hE0, hI0, ⟨fun _ => trivial, fun _ => ⟨fun _ => trivial, fun _ => ⟨fun _ => trivial, fun _ => ⟨fun z => absurd z h3, fun _ => ⟨fun z => absurd z h4, fun _ => trivial⟩⟩⟩⟩⟩, ⟨fun _ => trivial, fun _ => ⟨fun _ => trivial, fun _ => ⟨fun _ => trivial, fun _ => ⟨fun z => absurd z h3, fun _ => ⟨fun z => absurd z h4, fun _ => trivial⟩⟩⟩⟩⟩⟩
/-- result: where the process isn't one, the class throws and the reference tells 1; else both answer alike and it tells 0 -/
theorem zf_result {N : Nat} {σ τ : zs_T} (hE : zr_E σ τ) (hI : zr_I N τ) (x1 : Int32) : zr_E σ (fn_X4_result τ x1).1 ∧ zr_I N (fn_X4_result τ x1).1 ∧ ok_X4_result τ x1 ∧ ((fr_X3_isProcess σ x1 = 0 ∧ (fn_X4_result τ x1).1 35 0 = 1) ∨ (ok_X3_result σ x1 ∧ (fn_X4_result τ x1).1 35 0 = 0 ∧ fr_X3_result σ x1 = (fn_X4_result τ x1).2)) := by
  have hE0 : zr_E σ (zs_u τ 35 0 0) := zr_E35 hE
  have hI0 : zr_I N (zs_u τ 35 0 0) := zr_I35 hI
  by_cases hp : x1 < 0 ∨ 3 < x1
  · have hτ : fn_X4_result τ x1 = (zs_u (zs_u τ 35 0 0) 35 0 1, 0) := by unfold fn_X4_result; rw [if_pos (zf_in.mpr hp)]
    exact ⟨by rw [hτ]; exact zr_E35 hE0, by rw [hτ]; exact zr_I35 hI0, ⟨fun _ => trivial, fun z => absurd (zf_in.mpr hp) z⟩, Or.inl ⟨zf_pr.mpr hp, by rw [hτ]; simp [zs_u]⟩⟩
  · obtain ⟨p, hp3, rfl⟩ := zf_of (n := 3) rfl hp
    have hc : (nI p).toNatClampNeg = p := zq_c (by omega)
    have hv : vp_in (nI p) 4 := zq_in (by omega) (by decide)
    have hnp : ¬ fr_X3_isProcess σ (nI p) = 0 := fun z => hp (zf_pr.mp z)
    have hτ : fn_X4_result τ (nI p) = (zs_u τ 35 0 0, τ 26 p) := by unfold fn_X4_result; rw [if_neg (fun z => hp (zf_in.mp z)), hc]; rfl
    have p26 := (hE.1.2.2.2.1 p (by omega)).2.2.2.2.2.2.2.2.2.2.1
    refine ⟨by rw [hτ]; exact hE0, by rw [hτ]; exact hI0, ⟨fun _ => trivial, fun _ => ⟨hv, trivial⟩⟩, Or.inr ⟨⟨fun z => hnp z, fun _ => trivial⟩, by rw [hτ]; simp [zs_u], ?_⟩⟩
    rw [hτ]; unfold fr_X3_result; rw [if_neg hnp, hc]; exact p26
theorem zf_process {N : Nat} {σ τ : zs_T} (hE : zr_E σ τ) (hI : zr_I N τ) (x1 x2 : Int32) : zr_E σ (fn_X4_process τ x1 x2).1 ∧ zr_I N (fn_X4_process τ x1 x2).1 ∧ ok_X4_process τ x1 x2 ∧ (((fr_X3_isProcess σ x1 = 0 ∨ x2 < 0 ∨ 8 < x2) ∧ (fn_X4_process τ x1 x2).1 35 0 = 1) ∨ (ok_X3_process σ x1 x2 ∧ (fn_X4_process τ x1 x2).1 35 0 = 0 ∧ fr_X3_process σ x1 x2 = (fn_X4_process τ x1 x2).2)) := by
  have hE0 : zr_E σ (zs_u τ 35 0 0) := zr_E35 hE
  have hI0 : zr_I N (zs_u τ 35 0 0) := zr_I35 hI
  by_cases hp : x1 < 0 ∨ 3 < x1
  · have hτ : fn_X4_process τ x1 x2 = (zs_u (zs_u τ 35 0 0) 35 0 1, 0) := by unfold fn_X4_process; rw [if_pos (zf_in.mpr hp)]
    refine ⟨by rw [hτ]; exact zr_E35 hE0, by rw [hτ]; exact zr_I35 hI0, ?_, Or.inl ⟨Or.inl (zf_pr.mpr hp), by rw [hτ]; simp [zs_u]⟩⟩
    unfold ok_X4_process
    exact ⟨fun _ => trivial, fun z => absurd (zf_in.mpr hp) z⟩
  · by_cases hx : x2 < 0 ∨ 8 < x2
    · have hτ : fn_X4_process τ x1 x2 = (zs_u (zs_u τ 35 0 0) 35 0 1, 0) := by unfold fn_X4_process; rw [if_neg (fun z => hp (zf_in.mp z)), if_pos (zf_in.mpr hx)]
      refine ⟨by rw [hτ]; exact zr_E35 hE0, by rw [hτ]; exact zr_I35 hI0, ?_, Or.inl ⟨Or.inr hx, by rw [hτ]; simp [zs_u]⟩⟩
      unfold ok_X4_process
      exact ⟨fun _ => trivial, fun _ => ⟨fun _ => trivial, fun z => absurd (zf_in.mpr hx) z⟩⟩
    · obtain ⟨p, hp3, rfl⟩ := zf_of (n := 3) rfl hp
      obtain ⟨w, hw, rfl⟩ := zf_of (n := 8) rfl hx
      have hc : (nI p).toNatClampNeg = p := zq_c (by omega)
      have hv : vp_in (nI p) 4 := zq_in (by omega) (by decide)
      have hnp : ¬ fr_X3_isProcess σ (nI p) = 0 := fun z => hp (zf_pr.mp z)
      have hnm : ¬ fr_X4_in (zs_u τ 35 0 0) (nI p) 0 3 = 0 := fun z => hp (zf_in.mp z)
      have hnx : ¬ fr_X4_in (zs_u τ 35 0 0) (nI w) 0 8 = 0 := fun z => hx (zf_in.mp z)
      obtain ⟨p10, p11, p12, p13, p14, p15, p16, p21, p22, p24, p26, p30, p29⟩ := hE.1.2.2.2.1 p (by omega)
      obtain ⟨q1, q2, -, -, -⟩ := hE.2 p (by omega)
      have okM : ok_X4_process τ (nI p) (nI w) := by
        unfold ok_X4_process
        simp [hv]
      have h1 : (fn_X4_process τ (nI p) (nI w)).1 = zs_u τ 35 0 0 := by
        unfold fn_X4_process
        rw [if_neg hnm, if_neg hnx]
        repeat' split
        all_goals rfl
      refine ⟨by rw [h1]; exact hE0, by rw [h1]; exact hI0, okM, Or.inr ⟨?_, by rw [h1]; simp [zs_u], ?_⟩⟩
      · unfold ok_X3_process
        refine ⟨fun z => hnp z, fun _ => ⟨fun _ => trivial, fun c0 => ⟨fun _ => trivial, fun c1 => ⟨fun _ => trivial, fun c2 => ⟨fun _ => trivial, fun c3 => ⟨fun _ => trivial, fun c4 => ⟨fun _ => trivial, fun c5 => ⟨fun _ => trivial, fun c6 => ⟨fun _ => trivial, fun c7 => ⟨fun _ => trivial, fun c8 => ?_⟩⟩⟩⟩⟩⟩⟩⟩⟩⟩
        rcases (show w = 0 ∨ w = 1 ∨ w = 2 ∨ w = 3 ∨ w = 4 ∨ w = 5 ∨ w = 6 ∨ w = 7 ∨ w = 8 by omega) with rfl | rfl | rfl | rfl | rfl | rfl | rfl | rfl | rfl
        · exact c0 rfl
        · exact c1 rfl
        · exact c2 rfl
        · exact c3 rfl
        · exact c4 rfl
        · exact c5 rfl
        · exact c6 rfl
        · exact c7 rfl
        · exact c8 rfl
      · unfold fr_X3_process fn_X4_process
        rw [if_neg hnp, if_neg hnm, if_neg hnx, hc]
        have t10 : zs_u τ 35 0 0 10 p = τ 10 p := rfl
        rcases (show w = 0 ∨ w = 1 ∨ w = 2 ∨ w = 3 ∨ w = 4 ∨ w = 5 ∨ w = 6 ∨ w = 7 ∨ w = 8 by omega) with rfl | rfl | rfl | rfl | rfl | rfl | rfl | rfl | rfl
        · exact p10
        · exact p14
        · exact p15
        · exact p29
        · exact p30
        all_goals
          by_cases h10 : τ 10 p = 0
          · rw [t10, if_pos h10]
            first | exact (q2 h10).1 | exact (q2 h10).2.1 | exact (q2 h10).2.2.1 | exact (q2 h10).2.2.2
          · rw [t10, if_neg h10]
            first | exact (q1 h10).1 | exact (q1 h10).2.1 | exact (q1 h10).2.2 | exact p22
theorem zf_node {N : Nat} {σ τ : zs_T} (hE : zr_E σ τ) (hI : zr_I N τ) (x1 x2 : Int32) : zr_E σ (fn_X4_node τ x1 x2).1 ∧ zr_I N (fn_X4_node τ x1 x2).1 ∧ ok_X4_node τ x1 x2 ∧ (((fr_X3_isNode σ x1 = 0 ∨ x2 < 0 ∨ 7 < x2) ∧ (fn_X4_node τ x1 x2).1 35 0 = 1) ∨ (ok_X3_node σ x1 x2 ∧ (fn_X4_node τ x1 x2).1 35 0 = 0 ∧ fr_X3_node σ x1 x2 = (fn_X4_node τ x1 x2).2)) := by
  have hE0 : zr_E σ (zs_u τ 35 0 0) := zr_E35 hE
  have hI0 : zr_I N (zs_u τ 35 0 0) := zr_I35 hI
  by_cases hp : x1 < 0 ∨ 63 < x1
  · have hτ : fn_X4_node τ x1 x2 = (zs_u (zs_u τ 35 0 0) 35 0 1, 0) := by unfold fn_X4_node; rw [if_pos (zf_in.mpr hp)]
    refine ⟨by rw [hτ]; exact zr_E35 hE0, by rw [hτ]; exact zr_I35 hI0, ?_, Or.inl ⟨Or.inl (zf_nd.mpr hp), by rw [hτ]; simp [zs_u]⟩⟩
    unfold ok_X4_node
    exact ⟨fun _ => trivial, fun z => absurd (zf_in.mpr hp) z⟩
  · by_cases hx : x2 < 0 ∨ 7 < x2
    · have hτ : fn_X4_node τ x1 x2 = (zs_u (zs_u τ 35 0 0) 35 0 1, 0) := by unfold fn_X4_node; rw [if_neg (fun z => hp (zf_in.mp z)), if_pos (zf_in.mpr hx)]
      refine ⟨by rw [hτ]; exact zr_E35 hE0, by rw [hτ]; exact zr_I35 hI0, ?_, Or.inl ⟨Or.inr hx, by rw [hτ]; simp [zs_u]⟩⟩
      unfold ok_X4_node
      exact ⟨fun _ => trivial, fun _ => ⟨fun _ => trivial, fun z => absurd (zf_in.mpr hx) z⟩⟩
    · obtain ⟨p, hp3, rfl⟩ := zf_of (n := 63) rfl hp
      obtain ⟨w, hw, rfl⟩ := zf_of (n := 7) rfl hx
      have hc : (nI p).toNatClampNeg = p := zq_c (by omega)
      have hv : vp_in (nI p) 64 := zq_in (by omega) (by decide)
      have hnp : ¬ fr_X3_isNode σ (nI p) = 0 := fun z => hp (zf_nd.mp z)
      have hnm : ¬ fr_X4_in (zs_u τ 35 0 0) (nI p) 0 63 = 0 := fun z => hp (zf_in.mp z)
      have hnx : ¬ fr_X4_in (zs_u τ 35 0 0) (nI w) 0 7 = 0 := fun z => hx (zf_in.mp z)
      have en := fun c (hc : c < 8) => hE.1.1 c p hc (by omega)
      have okM : ok_X4_node τ (nI p) (nI w) := by
        unfold ok_X4_node
        simp [hv]
      have h1 : (fn_X4_node τ (nI p) (nI w)).1 = zs_u τ 35 0 0 := by
        unfold fn_X4_node
        rw [if_neg hnm, if_neg hnx]
        repeat' split
        all_goals rfl
      refine ⟨by rw [h1]; exact hE0, by rw [h1]; exact hI0, okM, Or.inr ⟨?_, by rw [h1]; simp [zs_u], ?_⟩⟩
      · unfold ok_X3_node
        refine ⟨fun z => hnp z, fun _ => ?_⟩
        rcases (show w = 0 ∨ w = 1 ∨ w = 2 ∨ w = 3 ∨ w = 4 ∨ w = 5 ∨ w = 6 ∨ w = 7 by omega) with rfl | rfl | rfl | rfl | rfl | rfl | rfl | rfl <;> simp [nI]
      · unfold fr_X3_node fn_X4_node
        rw [if_neg hnp, if_neg hnm, if_neg hnx, hc]
        rcases (show w = 0 ∨ w = 1 ∨ w = 2 ∨ w = 3 ∨ w = 4 ∨ w = 5 ∨ w = 6 ∨ w = 7 by omega) with rfl | rfl | rfl | rfl | rfl | rfl | rfl | rfl
        · exact en 0 (by decide)
        · exact en 1 (by decide)
        · exact en 2 (by decide)
        · have e3 := en 3 (by decide)
          have t3 : zs_u τ 35 0 0 3 p = τ 3 p := rfl
          show (if σ 3 p = 0 then (0 : Int32) else 1) = (if zs_u τ 35 0 0 3 p = 0 then (zs_u τ 35 0 0, 0) else (zs_u τ 35 0 0, 1) : zs_O).2
          rw [t3, e3]
          by_cases h0 : τ 3 p = 0
          · rw [if_pos h0, if_pos h0]
          · rw [if_neg h0, if_neg h0]
        · exact en 4 (by decide)
        · exact en 5 (by decide)
        · exact en 6 (by decide)
        · exact en 7 (by decide)
