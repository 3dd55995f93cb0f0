/-- what holds of a process at every place -/
def zr_B (τ : zs_T) (p : Nat) (d b : Nat) : Prop := (∃ k, k < 256 ∧ τ 12 p = nI k) ∧ (d ≤ 4 ∧ τ 30 p = nI d ∧ b < 16 ∧ τ 16 p = nI b ∧ ∀ j, j < d → ∃ b, b < 16 ∧ τ 27 (16 * p + j) = nI b) ∧ zs_B (τ 21 p) ∧ zs_B (τ 24 p) ∧ (∀ n, n < 64 → τ 22 p = nI n → τ 30 p ≠ 0 → zr_ev (τ 1 n))
def zr_H (τ : zs_T) (p : Nat) : Prop := τ 14 p ≤ τ 34 0 ∧ τ 15 p ≤ τ 34 0
theorem zr_P.B {τ : zs_T} {p : Nat} (h : zr_P τ p) : ∃ d b, zr_B τ p d b ∧ (τ 10 p = 2 → zr_pc b + d ≤ 4) ∧ (τ 10 p = 0 → d = 0) := by
  obtain ⟨p1, p2, ⟨d, b, h1, h2, h3, h4, h5, h6, h7⟩, p4, p5, p6, p7, p8, p9, p10, p11, p12, p13, p14, p15, p16, p17⟩ := h
  exact ⟨d, b, ⟨p2, ⟨h1, h2, h3, h4, h5⟩, p5, p6, p14⟩, h6, h7⟩
theorem zr_mk0 {τ : zs_T} {p d b : Nat} (hB : zr_B τ p d b) (e : τ 10 p = 0) (ho : τ 22 p = -1) (hd0 : d = 0) : zr_P τ p := by
  obtain ⟨b1, ⟨b2, b3, b4, b5, b6⟩, b7, b8, b9⟩ := hB
  unfold zr_P
  rw [e]
  exact ⟨by decide, b1, ⟨d, b, b2, b3, b4, b5, b6, (fun h => absurd h (by decide)), (fun _ => hd0)⟩, (fun _ => ho), b7, b8, (fun h => absurd h (by decide)), (fun h => absurd h (by decide)), (fun h => absurd h (by decide)), (fun h => absurd h (by decide)), (fun h => absurd h (by decide)), (fun h => absurd h (by decide)), (fun h => by rcases h with h | h | h; exact absurd h.1 (by decide); exact absurd h (by decide); exact absurd h (by decide)), b9, (fun h => absurd h (by decide)), (fun h => absurd h (by decide)), (fun h => absurd h (by decide))⟩
theorem zr_mk1 {τ : zs_T} {p d b : Nat} (hB : zr_B τ p d b) (e : τ 10 p = 1) (ho : τ 22 p = -1) : zr_P τ p := by
  obtain ⟨b1, ⟨b2, b3, b4, b5, b6⟩, b7, b8, b9⟩ := hB
  unfold zr_P
  rw [e]
  exact ⟨by decide, b1, ⟨d, b, b2, b3, b4, b5, b6, (fun h => absurd h (by decide)), (fun h => absurd h (by decide))⟩, (fun _ => ho), b7, b8, (fun h => absurd h (by decide)), (fun h => absurd h (by decide)), (fun h => absurd h (by decide)), (fun h => absurd h (by decide)), (fun h => absurd h (by decide)), (fun h => absurd h (by decide)), (fun h => by rcases h with h | h | h; exact absurd h.1 (by decide); exact absurd h (by decide); exact absurd h (by decide)), b9, (fun h => absurd h (by decide)), (fun h => absurd h (by decide)), (fun h => absurd h (by decide))⟩
theorem zr_mk2 {τ : zs_T} {p d b : Nat} (hB : zr_B τ p d b) (e : τ 10 p = 2) (ho : τ 22 p = -1) (hpc : zr_pc b + d ≤ 4) (hH : zr_H τ p) : zr_P τ p := by
  obtain ⟨b1, ⟨b2, b3, b4, b5, b6⟩, b7, b8, b9⟩ := hB
  unfold zr_P
  rw [e]
  exact ⟨by decide, b1, ⟨d, b, b2, b3, b4, b5, b6, (fun _ => hpc), (fun h => absurd h (by decide))⟩, (fun _ => ho), b7, b8, (fun _ => hH), (fun h => absurd h (by decide)), (fun h => absurd h (by decide)), (fun h => absurd h (by decide)), (fun h => absurd h (by decide)), (fun h => absurd h (by decide)), (fun h => by rcases h with h | h | h; exact absurd h.1 (by decide); exact absurd h (by decide); exact absurd h (by decide)), b9, (fun h => absurd h (by decide)), (fun h => absurd h (by decide)), (fun h => absurd h (by decide))⟩
theorem zr_mk3 {τ : zs_T} {p d b : Nat} (hB : zr_B τ p d b) (e : τ 10 p = 3) (hH : zr_H τ p) (hf : zr_nd (fun n => zr_L τ n ∧ zr_ev (τ 1 n)) (τ 17 p)) : zr_P τ p := by
  obtain ⟨b1, ⟨b2, b3, b4, b5, b6⟩, b7, b8, b9⟩ := hB
  unfold zr_P
  rw [e]
  exact ⟨by decide, b1, ⟨d, b, b2, b3, b4, b5, b6, (fun h => absurd h (by decide)), (fun h => absurd h (by decide))⟩, (fun h => absurd h (by decide)), b7, b8, (fun _ => hH), (fun _ _ => hf), (fun h => absurd h (by decide)), (fun h => absurd h (by decide)), (fun h => absurd h (by decide)), (fun h => absurd h (by decide)), (fun h => by rcases h with h | h | h; exact absurd h.1 (by decide); exact absurd h (by decide); exact absurd h (by decide)), b9, (fun h => absurd h (by decide)), (fun h => absurd h (by decide)), (fun h => absurd h (by decide))⟩
theorem zr_mk4 {τ : zs_T} {p d b : Nat} (hB : zr_B τ p d b) (e : τ 10 p = 4) (hH : zr_H τ p) (hf : zr_nd (fun n => zr_L τ n ∧ zr_ev (τ 1 n)) (τ 17 p)) (hpr : zr_nd (zr_Pt τ p) (τ 18 p)) (hcu : zr_rf (zr_Pt τ p) (τ 19 p)) : zr_P τ p := by
  obtain ⟨b1, ⟨b2, b3, b4, b5, b6⟩, b7, b8, b9⟩ := hB
  unfold zr_P
  rw [e]
  exact ⟨by decide, b1, ⟨d, b, b2, b3, b4, b5, b6, (fun h => absurd h (by decide)), (fun h => absurd h (by decide))⟩, (fun h => absurd h (by decide)), b7, b8, (fun _ => hH), (fun _ _ => hf), (fun _ _ _ => hpr), (fun _ => hcu), (fun h => absurd h (by decide)), (fun h => absurd h (by decide)), (fun h => by rcases h with h | h | h; exact absurd h.1 (by decide); exact absurd h (by decide); exact absurd h (by decide)), b9, (fun h => absurd h (by decide)), (fun h => absurd h (by decide)), (fun h => absurd h (by decide))⟩
theorem zr_mk5 {τ : zs_T} {p d b : Nat} (hB : zr_B τ p d b) (e : τ 10 p = 5) (hH : zr_H τ p) (hf : zr_nd (fun n => zr_L τ n ∧ zr_ev (τ 1 n)) (τ 17 p)) (hpr : zr_nd (zr_Pt τ p) (τ 18 p)) (hcu : zr_nd (zr_Pt τ p) (τ 19 p)) (hnx : zr_rf (fun n => n < 64) (τ 20 p)) (hs : ∀ c, c < 64 → τ 19 p = nI c → τ 0 c = 2 ∨ zr_rf (zr_Pt τ p) (τ 20 p)) (hm : τ 21 p = 1 → ∀ c, c < 64 → τ 19 p = nI c → τ 3 c = 1 ∧ τ 2 c = τ 20 p) : zr_P τ p := by
  obtain ⟨b1, ⟨b2, b3, b4, b5, b6⟩, b7, b8, b9⟩ := hB
  unfold zr_P
  rw [e]
  exact ⟨by decide, b1, ⟨d, b, b2, b3, b4, b5, b6, (fun h => absurd h (by decide)), (fun h => absurd h (by decide))⟩, (fun h => absurd h (by decide)), b7, b8, (fun _ => hH), (fun _ _ => hf), (fun _ _ _ => hpr), (fun h => absurd h (by decide)), (fun _ => ⟨hcu, hnx⟩), (fun _ => hs), (fun h => hm (by rcases h with h | h | h; exact h.2; exact absurd h (by decide); exact absurd h (by decide))), b9, (fun h => absurd h (by decide)), (fun h => absurd h (by decide)), (fun h => absurd h (by decide))⟩
theorem zr_mk6 {τ : zs_T} {p d b : Nat} (hB : zr_B τ p d b) (e : τ 10 p = 6) (hH : zr_H τ p) (hf : zr_nd (fun n => zr_L τ n ∧ zr_ev (τ 1 n)) (τ 17 p)) (hpr : zr_nd (zr_Pt τ p) (τ 18 p)) (hcu : zr_nd (zr_Pt τ p) (τ 19 p)) (hnx : zr_rf (fun n => n < 64) (τ 20 p)) (hs : ∀ c, c < 64 → τ 19 p = nI c → τ 0 c = 2 ∨ zr_rf (zr_Pt τ p) (τ 20 p)) (hm : ∀ c, c < 64 → τ 19 p = nI c → τ 3 c = 1 ∧ τ 2 c = τ 20 p) : zr_P τ p := by
  obtain ⟨b1, ⟨b2, b3, b4, b5, b6⟩, b7, b8, b9⟩ := hB
  unfold zr_P
  rw [e]
  exact ⟨by decide, b1, ⟨d, b, b2, b3, b4, b5, b6, (fun h => absurd h (by decide)), (fun h => absurd h (by decide))⟩, (fun h => absurd h (by decide)), b7, b8, (fun _ => hH), (fun _ _ => hf), (fun _ _ _ => hpr), (fun h => absurd h (by decide)), (fun _ => ⟨hcu, hnx⟩), (fun _ => hs), (fun _ => hm), b9, (fun h => absurd h (by decide)), (fun h => absurd h (by decide)), (fun h => absurd h (by decide))⟩
theorem zr_mk7 {τ : zs_T} {p d b : Nat} (hB : zr_B τ p d b) (e : τ 10 p = 7) (hH : zr_H τ p) (hf : zr_nd (fun n => zr_L τ n ∧ zr_ev (τ 1 n)) (τ 17 p)) (hpr : zr_nd (zr_Pt τ p) (τ 18 p)) (hcu : zr_rf (zr_Pt τ p) (τ 19 p)) : zr_P τ p := by
  obtain ⟨b1, ⟨b2, b3, b4, b5, b6⟩, b7, b8, b9⟩ := hB
  unfold zr_P
  rw [e]
  exact ⟨by decide, b1, ⟨d, b, b2, b3, b4, b5, b6, (fun h => absurd h (by decide)), (fun h => absurd h (by decide))⟩, (fun h => absurd h (by decide)), b7, b8, (fun _ => hH), (fun _ _ => hf), (fun _ _ _ => hpr), (fun _ => hcu), (fun h => absurd h (by decide)), (fun h => absurd h (by decide)), (fun h => by rcases h with h | h | h; exact absurd h.1 (by decide); exact absurd h (by decide); exact absurd h (by decide)), b9, (fun h => absurd h (by decide)), (fun h => absurd h (by decide)), (fun h => absurd h (by decide))⟩
theorem zr_mk8 {τ : zs_T} {p d b : Nat} (hB : zr_B τ p d b) (e : τ 10 p = 8) (hH : zr_H τ p) (hf : zr_nd (fun n => zr_L τ n ∧ zr_ev (τ 1 n)) (τ 17 p)) (hpr : zr_nd (zr_Pt τ p) (τ 18 p)) (hcu : zr_rf (zr_Pt τ p) (τ 19 p)) (hw : zr_nd (fun n => n < 64 ∧ τ 2 n = τ 19 p ∧ τ 3 n = 0) (τ 22 p)) : zr_P τ p := by
  obtain ⟨b1, ⟨b2, b3, b4, b5, b6⟩, b7, b8, b9⟩ := hB
  unfold zr_P
  rw [e]
  exact ⟨by decide, b1, ⟨d, b, b2, b3, b4, b5, b6, (fun h => absurd h (by decide)), (fun h => absurd h (by decide))⟩, (fun h => absurd h (by decide)), b7, b8, (fun _ => hH), (fun _ _ => hf), (fun _ _ _ => hpr), (fun _ => hcu), (fun h => absurd h (by decide)), (fun h => absurd h (by decide)), (fun h => by rcases h with h | h | h; exact absurd h.1 (by decide); exact absurd h (by decide); exact absurd h (by decide)), b9, (fun _ => hw), (fun h => absurd h (by decide)), (fun h => absurd h (by decide))⟩
theorem zr_mk9 {τ : zs_T} {p d b : Nat} (hB : zr_B τ p d b) (e : τ 10 p = 9) (hH : zr_H τ p) (hf : zr_nd (fun n => zr_L τ n ∧ zr_ev (τ 1 n)) (τ 17 p)) (hg : zr_nd (fun n => zr_L τ n ∧ zr_ev (τ 1 n)) (τ 23 p)) (hd : τ 30 p ≠ 0) : zr_P τ p := by
  obtain ⟨b1, ⟨b2, b3, b4, b5, b6⟩, b7, b8, b9⟩ := hB
  unfold zr_P
  rw [e]
  exact ⟨by decide, b1, ⟨d, b, b2, b3, b4, b5, b6, (fun h => absurd h (by decide)), (fun h => absurd h (by decide))⟩, (fun h => absurd h (by decide)), b7, b8, (fun _ => hH), (fun _ _ => hf), (fun _ _ h => absurd rfl h), (fun h => absurd h (by decide)), (fun h => absurd h (by decide)), (fun h => absurd h (by decide)), (fun h => by rcases h with h | h | h; exact absurd h.1 (by decide); exact absurd h (by decide); exact absurd h (by decide)), b9, (fun h => absurd h (by decide)), (fun _ => ⟨hg, hd⟩), (fun h => absurd h (by decide))⟩
theorem zr_mk10 {τ : zs_T} {p d b : Nat} (hB : zr_B τ p d b) (e : τ 10 p = 10) (hH : zr_H τ p) (hf : zr_nd (fun n => zr_L τ n ∧ zr_ev (τ 1 n)) (τ 17 p)) (hpr : zr_nd (zr_Pt τ p) (τ 18 p)) (hcu : zr_nd (zr_Pt τ p) (τ 19 p)) (hnx : zr_rf (fun n => n < 64) (τ 20 p)) (hod : ∀ c, c < 64 → τ 19 p = nI c → ¬ zr_ev (τ 1 c)) : zr_P τ p := by
  obtain ⟨b1, ⟨b2, b3, b4, b5, b6⟩, b7, b8, b9⟩ := hB
  unfold zr_P
  rw [e]
  exact ⟨by decide, b1, ⟨d, b, b2, b3, b4, b5, b6, (fun h => absurd h (by decide)), (fun h => absurd h (by decide))⟩, (fun h => absurd h (by decide)), b7, b8, (fun _ => hH), (fun _ _ => hf), (fun _ _ _ => hpr), (fun h => absurd h (by decide)), (fun _ => ⟨hcu, hnx⟩), (fun h => absurd h (by decide)), (fun h => by rcases h with h | h | h; exact absurd h.1 (by decide); exact absurd h (by decide); exact absurd h (by decide)), b9, (fun h => absurd h (by decide)), (fun h => absurd h (by decide)), (fun _ => hod)⟩
theorem zr_mk11 {τ : zs_T} {p d b : Nat} (hB : zr_B τ p d b) (e : τ 10 p = 11) (hH : zr_H τ p) (hf : zr_nd (fun n => zr_L τ n ∧ zr_ev (τ 1 n)) (τ 17 p)) (hpr : zr_nd (zr_Pt τ p) (τ 18 p)) (hcu : zr_nd (zr_Pt τ p) (τ 19 p)) (hnx : zr_rf (fun n => n < 64) (τ 20 p)) (hm : ∀ c, c < 64 → τ 19 p = nI c → τ 3 c = 1 ∧ τ 2 c = τ 20 p) : zr_P τ p := by
  obtain ⟨b1, ⟨b2, b3, b4, b5, b6⟩, b7, b8, b9⟩ := hB
  unfold zr_P
  rw [e]
  exact ⟨by decide, b1, ⟨d, b, b2, b3, b4, b5, b6, (fun h => absurd h (by decide)), (fun h => absurd h (by decide))⟩, (fun h => absurd h (by decide)), b7, b8, (fun _ => hH), (fun _ _ => hf), (fun _ _ _ => hpr), (fun h => absurd h (by decide)), (fun _ => ⟨hcu, hnx⟩), (fun h => absurd h (by decide)), (fun _ => hm), b9, (fun h => absurd h (by decide)), (fun h => absurd h (by decide)), (fun h => absurd h (by decide))⟩
theorem zr_mk12 {τ : zs_T} {p d b : Nat} (hB : zr_B τ p d b) (e : τ 10 p = 12) (hH : zr_H τ p) : zr_P τ p := by
  obtain ⟨b1, ⟨b2, b3, b4, b5, b6⟩, b7, b8, b9⟩ := hB
  unfold zr_P
  rw [e]
  exact ⟨by decide, b1, ⟨d, b, b2, b3, b4, b5, b6, (fun h => absurd h (by decide)), (fun h => absurd h (by decide))⟩, (fun h => absurd h (by decide)), b7, b8, (fun _ => hH), (fun _ h => absurd h (by decide)), (fun _ h => absurd h (by decide)), (fun h => absurd h (by decide)), (fun h => absurd h (by decide)), (fun h => absurd h (by decide)), (fun h => by rcases h with h | h | h; exact absurd h.1 (by decide); exact absurd h (by decide); exact absurd h (by decide)), b9, (fun h => absurd h (by decide)), (fun h => absurd h (by decide)), (fun h => absurd h (by decide))⟩
theorem zr_mk13 {τ : zs_T} {p d b : Nat} (hB : zr_B τ p d b) (e : τ 10 p = 13) (hH : zr_H τ p) : zr_P τ p := by
  obtain ⟨b1, ⟨b2, b3, b4, b5, b6⟩, b7, b8, b9⟩ := hB
  unfold zr_P
  rw [e]
  exact ⟨by decide, b1, ⟨d, b, b2, b3, b4, b5, b6, (fun h => absurd h (by decide)), (fun h => absurd h (by decide))⟩, (fun h => absurd h (by decide)), b7, b8, (fun _ => hH), (fun _ h => absurd h (by decide)), (fun _ h => absurd h (by decide)), (fun h => absurd h (by decide)), (fun h => absurd h (by decide)), (fun h => absurd h (by decide)), (fun h => by rcases h with h | h | h; exact absurd h.1 (by decide); exact absurd h (by decide); exact absurd h (by decide)), b9, (fun h => absurd h (by decide)), (fun h => absurd h (by decide)), (fun h => absurd h (by decide))⟩
theorem zr_P.H2 {τ : zs_T} {p : Nat} (h : zr_P τ p) (e : τ 10 p = 2) : zr_H τ p := by
  obtain ⟨p1, p2, p3, p4, p5, p6, p7, p8, p9, p10, p11, p12, p13, p14, p15, p16, p17⟩ := h
  exact p7 (by rw [e]; decide)
theorem zr_P.H3 {τ : zs_T} {p : Nat} (h : zr_P τ p) (e : τ 10 p = 3) : zr_H τ p := by
  obtain ⟨p1, p2, p3, p4, p5, p6, p7, p8, p9, p10, p11, p12, p13, p14, p15, p16, p17⟩ := h
  exact p7 (by rw [e]; decide)
theorem zr_P.H4 {τ : zs_T} {p : Nat} (h : zr_P τ p) (e : τ 10 p = 4) : zr_H τ p := by
  obtain ⟨p1, p2, p3, p4, p5, p6, p7, p8, p9, p10, p11, p12, p13, p14, p15, p16, p17⟩ := h
  exact p7 (by rw [e]; decide)
theorem zr_P.H5 {τ : zs_T} {p : Nat} (h : zr_P τ p) (e : τ 10 p = 5) : zr_H τ p := by
  obtain ⟨p1, p2, p3, p4, p5, p6, p7, p8, p9, p10, p11, p12, p13, p14, p15, p16, p17⟩ := h
  exact p7 (by rw [e]; decide)
theorem zr_P.H6 {τ : zs_T} {p : Nat} (h : zr_P τ p) (e : τ 10 p = 6) : zr_H τ p := by
  obtain ⟨p1, p2, p3, p4, p5, p6, p7, p8, p9, p10, p11, p12, p13, p14, p15, p16, p17⟩ := h
  exact p7 (by rw [e]; decide)
theorem zr_P.H7 {τ : zs_T} {p : Nat} (h : zr_P τ p) (e : τ 10 p = 7) : zr_H τ p := by
  obtain ⟨p1, p2, p3, p4, p5, p6, p7, p8, p9, p10, p11, p12, p13, p14, p15, p16, p17⟩ := h
  exact p7 (by rw [e]; decide)
theorem zr_P.H8 {τ : zs_T} {p : Nat} (h : zr_P τ p) (e : τ 10 p = 8) : zr_H τ p := by
  obtain ⟨p1, p2, p3, p4, p5, p6, p7, p8, p9, p10, p11, p12, p13, p14, p15, p16, p17⟩ := h
  exact p7 (by rw [e]; decide)
theorem zr_P.H9 {τ : zs_T} {p : Nat} (h : zr_P τ p) (e : τ 10 p = 9) : zr_H τ p := by
  obtain ⟨p1, p2, p3, p4, p5, p6, p7, p8, p9, p10, p11, p12, p13, p14, p15, p16, p17⟩ := h
  exact p7 (by rw [e]; decide)
theorem zr_P.H10 {τ : zs_T} {p : Nat} (h : zr_P τ p) (e : τ 10 p = 10) : zr_H τ p := by
  obtain ⟨p1, p2, p3, p4, p5, p6, p7, p8, p9, p10, p11, p12, p13, p14, p15, p16, p17⟩ := h
  exact p7 (by rw [e]; decide)
theorem zr_P.H11 {τ : zs_T} {p : Nat} (h : zr_P τ p) (e : τ 10 p = 11) : zr_H τ p := by
  obtain ⟨p1, p2, p3, p4, p5, p6, p7, p8, p9, p10, p11, p12, p13, p14, p15, p16, p17⟩ := h
  exact p7 (by rw [e]; decide)
theorem zr_P.H12 {τ : zs_T} {p : Nat} (h : zr_P τ p) (e : τ 10 p = 12) : zr_H τ p := by
  obtain ⟨p1, p2, p3, p4, p5, p6, p7, p8, p9, p10, p11, p12, p13, p14, p15, p16, p17⟩ := h
  exact p7 (by rw [e]; decide)
theorem zr_P.H13 {τ : zs_T} {p : Nat} (h : zr_P τ p) (e : τ 10 p = 13) : zr_H τ p := by
  obtain ⟨p1, p2, p3, p4, p5, p6, p7, p8, p9, p10, p11, p12, p13, p14, p15, p16, p17⟩ := h
  exact p7 (by rw [e]; decide)
theorem zr_P.f3 {τ : zs_T} {p : Nat} (h : zr_P τ p) (e : τ 10 p = 3) : zr_nd (fun n => zr_L τ n ∧ zr_ev (τ 1 n)) (τ 17 p) := by
  obtain ⟨p1, p2, p3, p4, p5, p6, p7, p8, p9, p10, p11, p12, p13, p14, p15, p16, p17⟩ := h
  exact p8 (by rw [e]; decide) (by rw [e]; decide)
theorem zr_P.f4 {τ : zs_T} {p : Nat} (h : zr_P τ p) (e : τ 10 p = 4) : zr_nd (fun n => zr_L τ n ∧ zr_ev (τ 1 n)) (τ 17 p) := by
  obtain ⟨p1, p2, p3, p4, p5, p6, p7, p8, p9, p10, p11, p12, p13, p14, p15, p16, p17⟩ := h
  exact p8 (by rw [e]; decide) (by rw [e]; decide)
theorem zr_P.f5 {τ : zs_T} {p : Nat} (h : zr_P τ p) (e : τ 10 p = 5) : zr_nd (fun n => zr_L τ n ∧ zr_ev (τ 1 n)) (τ 17 p) := by
  obtain ⟨p1, p2, p3, p4, p5, p6, p7, p8, p9, p10, p11, p12, p13, p14, p15, p16, p17⟩ := h
  exact p8 (by rw [e]; decide) (by rw [e]; decide)
theorem zr_P.f6 {τ : zs_T} {p : Nat} (h : zr_P τ p) (e : τ 10 p = 6) : zr_nd (fun n => zr_L τ n ∧ zr_ev (τ 1 n)) (τ 17 p) := by
  obtain ⟨p1, p2, p3, p4, p5, p6, p7, p8, p9, p10, p11, p12, p13, p14, p15, p16, p17⟩ := h
  exact p8 (by rw [e]; decide) (by rw [e]; decide)
theorem zr_P.f7 {τ : zs_T} {p : Nat} (h : zr_P τ p) (e : τ 10 p = 7) : zr_nd (fun n => zr_L τ n ∧ zr_ev (τ 1 n)) (τ 17 p) := by
  obtain ⟨p1, p2, p3, p4, p5, p6, p7, p8, p9, p10, p11, p12, p13, p14, p15, p16, p17⟩ := h
  exact p8 (by rw [e]; decide) (by rw [e]; decide)
theorem zr_P.f8 {τ : zs_T} {p : Nat} (h : zr_P τ p) (e : τ 10 p = 8) : zr_nd (fun n => zr_L τ n ∧ zr_ev (τ 1 n)) (τ 17 p) := by
  obtain ⟨p1, p2, p3, p4, p5, p6, p7, p8, p9, p10, p11, p12, p13, p14, p15, p16, p17⟩ := h
  exact p8 (by rw [e]; decide) (by rw [e]; decide)
theorem zr_P.f9 {τ : zs_T} {p : Nat} (h : zr_P τ p) (e : τ 10 p = 9) : zr_nd (fun n => zr_L τ n ∧ zr_ev (τ 1 n)) (τ 17 p) := by
  obtain ⟨p1, p2, p3, p4, p5, p6, p7, p8, p9, p10, p11, p12, p13, p14, p15, p16, p17⟩ := h
  exact p8 (by rw [e]; decide) (by rw [e]; decide)
theorem zr_P.f10 {τ : zs_T} {p : Nat} (h : zr_P τ p) (e : τ 10 p = 10) : zr_nd (fun n => zr_L τ n ∧ zr_ev (τ 1 n)) (τ 17 p) := by
  obtain ⟨p1, p2, p3, p4, p5, p6, p7, p8, p9, p10, p11, p12, p13, p14, p15, p16, p17⟩ := h
  exact p8 (by rw [e]; decide) (by rw [e]; decide)
theorem zr_P.f11 {τ : zs_T} {p : Nat} (h : zr_P τ p) (e : τ 10 p = 11) : zr_nd (fun n => zr_L τ n ∧ zr_ev (τ 1 n)) (τ 17 p) := by
  obtain ⟨p1, p2, p3, p4, p5, p6, p7, p8, p9, p10, p11, p12, p13, p14, p15, p16, p17⟩ := h
  exact p8 (by rw [e]; decide) (by rw [e]; decide)
theorem zr_P.pr4 {τ : zs_T} {p : Nat} (h : zr_P τ p) (e : τ 10 p = 4) : zr_nd (zr_Pt τ p) (τ 18 p) := by
  obtain ⟨p1, p2, p3, p4, p5, p6, p7, p8, p9, p10, p11, p12, p13, p14, p15, p16, p17⟩ := h
  exact p9 (by rw [e]; decide) (by rw [e]; decide) (by rw [e]; decide)
theorem zr_P.pr5 {τ : zs_T} {p : Nat} (h : zr_P τ p) (e : τ 10 p = 5) : zr_nd (zr_Pt τ p) (τ 18 p) := by
  obtain ⟨p1, p2, p3, p4, p5, p6, p7, p8, p9, p10, p11, p12, p13, p14, p15, p16, p17⟩ := h
  exact p9 (by rw [e]; decide) (by rw [e]; decide) (by rw [e]; decide)
theorem zr_P.pr6 {τ : zs_T} {p : Nat} (h : zr_P τ p) (e : τ 10 p = 6) : zr_nd (zr_Pt τ p) (τ 18 p) := by
  obtain ⟨p1, p2, p3, p4, p5, p6, p7, p8, p9, p10, p11, p12, p13, p14, p15, p16, p17⟩ := h
  exact p9 (by rw [e]; decide) (by rw [e]; decide) (by rw [e]; decide)
theorem zr_P.pr7 {τ : zs_T} {p : Nat} (h : zr_P τ p) (e : τ 10 p = 7) : zr_nd (zr_Pt τ p) (τ 18 p) := by
  obtain ⟨p1, p2, p3, p4, p5, p6, p7, p8, p9, p10, p11, p12, p13, p14, p15, p16, p17⟩ := h
  exact p9 (by rw [e]; decide) (by rw [e]; decide) (by rw [e]; decide)
theorem zr_P.pr8 {τ : zs_T} {p : Nat} (h : zr_P τ p) (e : τ 10 p = 8) : zr_nd (zr_Pt τ p) (τ 18 p) := by
  obtain ⟨p1, p2, p3, p4, p5, p6, p7, p8, p9, p10, p11, p12, p13, p14, p15, p16, p17⟩ := h
  exact p9 (by rw [e]; decide) (by rw [e]; decide) (by rw [e]; decide)
theorem zr_P.pr10 {τ : zs_T} {p : Nat} (h : zr_P τ p) (e : τ 10 p = 10) : zr_nd (zr_Pt τ p) (τ 18 p) := by
  obtain ⟨p1, p2, p3, p4, p5, p6, p7, p8, p9, p10, p11, p12, p13, p14, p15, p16, p17⟩ := h
  exact p9 (by rw [e]; decide) (by rw [e]; decide) (by rw [e]; decide)
theorem zr_P.pr11 {τ : zs_T} {p : Nat} (h : zr_P τ p) (e : τ 10 p = 11) : zr_nd (zr_Pt τ p) (τ 18 p) := by
  obtain ⟨p1, p2, p3, p4, p5, p6, p7, p8, p9, p10, p11, p12, p13, p14, p15, p16, p17⟩ := h
  exact p9 (by rw [e]; decide) (by rw [e]; decide) (by rw [e]; decide)
theorem zr_P.cu4 {τ : zs_T} {p : Nat} (h : zr_P τ p) (e : τ 10 p = 4) : zr_rf (zr_Pt τ p) (τ 19 p) := by
  obtain ⟨p1, p2, p3, p4, p5, p6, p7, p8, p9, p10, p11, p12, p13, p14, p15, p16, p17⟩ := h
  exact p10 (by rw [e]; decide)
theorem zr_P.cu7 {τ : zs_T} {p : Nat} (h : zr_P τ p) (e : τ 10 p = 7) : zr_rf (zr_Pt τ p) (τ 19 p) := by
  obtain ⟨p1, p2, p3, p4, p5, p6, p7, p8, p9, p10, p11, p12, p13, p14, p15, p16, p17⟩ := h
  exact p10 (by rw [e]; decide)
theorem zr_P.cu8 {τ : zs_T} {p : Nat} (h : zr_P τ p) (e : τ 10 p = 8) : zr_rf (zr_Pt τ p) (τ 19 p) := by
  obtain ⟨p1, p2, p3, p4, p5, p6, p7, p8, p9, p10, p11, p12, p13, p14, p15, p16, p17⟩ := h
  exact p10 (by rw [e]; decide)
theorem zr_P.cu5 {τ : zs_T} {p : Nat} (h : zr_P τ p) (e : τ 10 p = 5) : zr_nd (zr_Pt τ p) (τ 19 p) ∧ zr_rf (fun n => n < 64) (τ 20 p) := by
  obtain ⟨p1, p2, p3, p4, p5, p6, p7, p8, p9, p10, p11, p12, p13, p14, p15, p16, p17⟩ := h
  exact p11 (by rw [e]; decide)
theorem zr_P.cu6 {τ : zs_T} {p : Nat} (h : zr_P τ p) (e : τ 10 p = 6) : zr_nd (zr_Pt τ p) (τ 19 p) ∧ zr_rf (fun n => n < 64) (τ 20 p) := by
  obtain ⟨p1, p2, p3, p4, p5, p6, p7, p8, p9, p10, p11, p12, p13, p14, p15, p16, p17⟩ := h
  exact p11 (by rw [e]; decide)
theorem zr_P.cu10 {τ : zs_T} {p : Nat} (h : zr_P τ p) (e : τ 10 p = 10) : zr_nd (zr_Pt τ p) (τ 19 p) ∧ zr_rf (fun n => n < 64) (τ 20 p) := by
  obtain ⟨p1, p2, p3, p4, p5, p6, p7, p8, p9, p10, p11, p12, p13, p14, p15, p16, p17⟩ := h
  exact p11 (by rw [e]; decide)
theorem zr_P.cu11 {τ : zs_T} {p : Nat} (h : zr_P τ p) (e : τ 10 p = 11) : zr_nd (zr_Pt τ p) (τ 19 p) ∧ zr_rf (fun n => n < 64) (τ 20 p) := by
  obtain ⟨p1, p2, p3, p4, p5, p6, p7, p8, p9, p10, p11, p12, p13, p14, p15, p16, p17⟩ := h
  exact p11 (by rw [e]; decide)
theorem zr_P.s5 {τ : zs_T} {p : Nat} (h : zr_P τ p) (e : τ 10 p = 5) : ∀ c, c < 64 → τ 19 p = nI c → τ 0 c = 2 ∨ zr_rf (zr_Pt τ p) (τ 20 p) := by
  obtain ⟨p1, p2, p3, p4, p5, p6, p7, p8, p9, p10, p11, p12, p13, p14, p15, p16, p17⟩ := h
  exact p12 (by rw [e]; decide)
theorem zr_P.s6 {τ : zs_T} {p : Nat} (h : zr_P τ p) (e : τ 10 p = 6) : ∀ c, c < 64 → τ 19 p = nI c → τ 0 c = 2 ∨ zr_rf (zr_Pt τ p) (τ 20 p) := by
  obtain ⟨p1, p2, p3, p4, p5, p6, p7, p8, p9, p10, p11, p12, p13, p14, p15, p16, p17⟩ := h
  exact p12 (by rw [e]; decide)
theorem zr_P.m5 {τ : zs_T} {p : Nat} (h : zr_P τ p) (e : τ 10 p = 5) : τ 21 p = 1 → ∀ c, c < 64 → τ 19 p = nI c → τ 3 c = 1 ∧ τ 2 c = τ 20 p := by
  obtain ⟨p1, p2, p3, p4, p5, p6, p7, p8, p9, p10, p11, p12, p13, p14, p15, p16, p17⟩ := h
  exact fun h => p13 (Or.inl ⟨e, h⟩)
theorem zr_P.m6 {τ : zs_T} {p : Nat} (h : zr_P τ p) (e : τ 10 p = 6) : ∀ c, c < 64 → τ 19 p = nI c → τ 3 c = 1 ∧ τ 2 c = τ 20 p := by
  obtain ⟨p1, p2, p3, p4, p5, p6, p7, p8, p9, p10, p11, p12, p13, p14, p15, p16, p17⟩ := h
  exact p13 (Or.inr (by rw [e]; decide))
theorem zr_P.m11 {τ : zs_T} {p : Nat} (h : zr_P τ p) (e : τ 10 p = 11) : ∀ c, c < 64 → τ 19 p = nI c → τ 3 c = 1 ∧ τ 2 c = τ 20 p := by
  obtain ⟨p1, p2, p3, p4, p5, p6, p7, p8, p9, p10, p11, p12, p13, p14, p15, p16, p17⟩ := h
  exact p13 (Or.inr (by rw [e]; decide))
theorem zr_P.w8 {τ : zs_T} {p : Nat} (h : zr_P τ p) (e : τ 10 p = 8) : zr_nd (fun n => n < 64 ∧ τ 2 n = τ 19 p ∧ τ 3 n = 0) (τ 22 p) := by
  obtain ⟨p1, p2, p3, p4, p5, p6, p7, p8, p9, p10, p11, p12, p13, p14, p15, p16, p17⟩ := h
  exact p15 e
theorem zr_P.g9 {τ : zs_T} {p : Nat} (h : zr_P τ p) (e : τ 10 p = 9) : zr_nd (fun n => zr_L τ n ∧ zr_ev (τ 1 n)) (τ 23 p) ∧ τ 30 p ≠ 0 := by
  obtain ⟨p1, p2, p3, p4, p5, p6, p7, p8, p9, p10, p11, p12, p13, p14, p15, p16, p17⟩ := h
  exact p16 e
theorem zr_P.od10 {τ : zs_T} {p : Nat} (h : zr_P τ p) (e : τ 10 p = 10) : ∀ c, c < 64 → τ 19 p = nI c → ¬ zr_ev (τ 1 c) := by
  obtain ⟨p1, p2, p3, p4, p5, p6, p7, p8, p9, p10, p11, p12, p13, p14, p15, p16, p17⟩ := h
  exact p17 e
theorem zr_P.o0 {τ : zs_T} {p : Nat} (h : zr_P τ p) (e : τ 10 p = 0) : τ 22 p = -1 := by
  obtain ⟨p1, p2, p3, p4, p5, p6, p7, p8, p9, p10, p11, p12, p13, p14, p15, p16, p17⟩ := h
  exact p4 (by rw [e]; decide)
theorem zr_P.o1 {τ : zs_T} {p : Nat} (h : zr_P τ p) (e : τ 10 p = 1) : τ 22 p = -1 := by
  obtain ⟨p1, p2, p3, p4, p5, p6, p7, p8, p9, p10, p11, p12, p13, p14, p15, p16, p17⟩ := h
  exact p4 (by rw [e]; decide)
theorem zr_P.o2 {τ : zs_T} {p : Nat} (h : zr_P τ p) (e : τ 10 p = 2) : τ 22 p = -1 := by
  obtain ⟨p1, p2, p3, p4, p5, p6, p7, p8, p9, p10, p11, p12, p13, p14, p15, p16, p17⟩ := h
  exact p4 (by rw [e]; decide)
