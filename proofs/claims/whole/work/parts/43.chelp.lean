/-! what the class's small methods come to -/
theorem zd_cut {s : zs_T} {t m r : Nat} (hr : r < 2 ^ 31) (e : s 30 t = nI r) (hm : m ≤ r) : (fn_X1_cutTo s t (nI m)).1 = zs_u s 30 t (nI m) := by
  unfold fn_X1_cutTo
  rw [if_neg (zq_ge (by omega)), e]
  by_cases h : m < r
  · rw [if_pos ((nI_ltI (by omega) (by omega)).mpr h)]
  · have : m = r := by omega
    subst this
    rw [if_neg (fun z => by have := (nI_ltI (by omega) (by omega)).mp z; omega)]
    funext c k
    by_cases hck : c = 30 ∧ k = t
    · rw [hck.1, hck.2]; simp [zs_u, e]
    · simp [zs_u, hck]
theorem zd_cut0 {s : zs_T} {t r : Nat} (hr : r < 2 ^ 31) (e : s 30 t = nI r) : (fn_X1_cutTo s t 0).1 = zs_u s 30 t 0 := zd_cut (m := 0) hr e (by omega)
theorem zd_drop {s : zs_T} {t d : Nat} (hd : d < 2 ^ 31) (h1 : 1 ≤ d) (e : s 30 t = nI d) : (fn_X1_dropTop s t).1 = zs_u s 30 t (nI (d - 1)) := by
  unfold fn_X1_dropTop
  rw [e, show (1 : Int32) = nI 1 from rfl, pk_sub (by omega)]
  exact zd_cut hd e (by omega)
theorem zd_len {t : Nat} : zc_len t ≤ 64 := by unfold zc_len; split <;> omega
theorem zd_add {s : zs_T} {t d : Nat} {v : Int32} (hd : d < zc_len t) (e : s 30 t = nI d) : (fn_X1_add s t v).1 = zs_u (zs_u s (40 + t) d v) 30 t (nI (d + 1)) := by
  have hl := zd_len (t := t)
  unfold fn_X1_add
  rw [e, if_pos (show nI d < Int32.ofNat (zc_len t) from (nI_ltI (by omega) (by omega)).mpr hd), zq_c (by omega)]
  have : zs_u s (40 + t) d v 30 t = s 30 t := by rw [zs_uc (by omega)]
  rw [this, e, nI_1]
theorem zd_okadd {s : zs_T} {t d : Nat} {v : Int32} (hd : d < zc_len t) (e : s 30 t = nI d) : ok_X1_add s t v := by
  have hl := zd_len (t := t)
  unfold ok_X1_add
  rw [e]
  exact ⟨fun _ => ⟨zq_in hd (by omega), trivial⟩, fun _ => trivial⟩
theorem zd_at {s : zs_T} {t j r : Nat} (hr : r < 2 ^ 31) (e : s 30 t = nI r) (hj : j < r) : fr_X1_at s t (nI j) = s (40 + t) j := by
  unfold fr_X1_at
  rw [if_neg (zq_ge (by omega)), e, if_pos ((nI_ltI (by omega) (by omega)).mpr hj), zq_c (by omega)]
theorem zd_okat {s : zs_T} {t j r : Nat} (hr : r ≤ zc_len t) (e : s 30 t = nI r) (hj : j < 2 ^ 31) : ok_X1_at s t (nI j) := by
  have hl := zd_len (t := t)
  unfold ok_X1_at
  refine ⟨fun _ => trivial, fun _ => ⟨fun h => ?_, fun _ => trivial⟩⟩
  rw [e] at h
  have := (nI_ltI (by omega) (by omega)).mp h
  exact ⟨zq_in (by omega) (by omega), trivial⟩
theorem zd_top {s : zs_T} {t d : Nat} (hd : d < 2 ^ 31) (h1 : 1 ≤ d) (e : s 30 t = nI d) : fr_X1_top s t = s (40 + t) (d - 1) := by
  unfold fr_X1_top
  rw [e, show (1 : Int32) = nI 1 from rfl, pk_sub (by omega)]
  exact zd_at hd e (by omega)
theorem zd_oktop {s : zs_T} {t d : Nat} (hd : d ≤ zc_len t) (h1 : 1 ≤ d) (e : s 30 t = nI d) : ok_X1_top s t := by
  have hl := zd_len (t := t)
  unfold ok_X1_top
  rw [e, show (1 : Int32) = nI 1 from rfl, pk_sub (by omega)]
  exact ⟨zd_okat hd e (by omega), trivial⟩
theorem zd_put {s : zs_T} {t m r : Nat} {v : Int32} (hr : r < 2 ^ 31) (e : s 30 t = nI r) (hm : m < r) : (fn_X1_put s t (nI m) v).1 = zs_u s (40 + t) m v := by
  unfold fn_X1_put
  rw [if_neg (zq_ge (by omega)), e, if_pos ((nI_ltI (by omega) (by omega)).mpr hm), zq_c (by omega)]
theorem zd_okput {s : zs_T} {t m r : Nat} {v : Int32} (hr : r ≤ zc_len t) (e : s 30 t = nI r) (hm : m < r) : ok_X1_put s t (nI m) v := by
  have hl := zd_len (t := t)
  unfold ok_X1_put
  exact ⟨fun _ => trivial, fun _ => ⟨fun h => ⟨zq_in (by omega) (by omega), trivial⟩, fun _ => trivial⟩⟩
theorem zd_nd {s : zs_T} {n : Nat} (h : n < 64) : fr_X3_isNode s (nI n) = 1 := by
  unfold fr_X3_isNode
  rw [if_neg (zq_ge (by omega)), if_pos (by rw [show (64 : Int32) = nI 64 from rfl, nI_ltI (by omega) (by omega)]; exact h)]
theorem zd_nd0 {s : zs_T} : fr_X3_isNode s (-1) = 0 := by
  unfold fr_X3_isNode
  rw [if_pos zq_lt0]
theorem zd_bk {s : zs_T} {n : Nat} (h : n < 16) : fr_X3_isBucket s (nI n) = 1 := by
  unfold fr_X3_isBucket
  rw [if_neg (zq_ge (by omega)), if_pos (by rw [show (16 : Int32) = nI 16 from rfl, nI_ltI (by omega) (by omega)]; exact h)]
theorem zd_nob {s : zs_T} {n : Nat} (h : n < 16) : fr_X3_nodeOfBucket s (nI n) = s 31 n := by
  unfold fr_X3_nodeOfBucket
  rw [zd_bk h, if_neg (by decide), zq_c (by omega)]
theorem zd_valueOf {s : zs_T} {n : Nat} (h : n < 64) : fr_X3_valueOf s (nI n) = s 5 n := by
  unfold fr_X3_valueOf
  rw [zd_nd h, if_neg (by decide), zq_c (by omega)]
theorem zd_nextOf {s : zs_T} {n : Nat} (h : n < 64) : fr_X3_nextOf s (nI n) = s 2 n := by
  unfold fr_X3_nextOf
  rw [zd_nd h, if_neg (by decide), zq_c (by omega)]
theorem zd_leads {s : zs_T} {a : Nat} {w : Int32} (ha : a < 64) : fr_X3_leadsTo s (nI a) w = 0 ↔ ¬ (s 2 a = w ∧ s 3 a = 0) := by
  unfold fr_X3_leadsTo
  rw [zd_nd ha, if_neg (by decide), zq_c (by omega)]
  by_cases h1 : s 2 a = w
  · rw [if_pos h1]
    by_cases h2 : s 3 a = 0
    · rw [if_pos h2]; simp [h1, h2]
    · rw [if_neg h2]; simp [h2]
  · rw [if_neg h1]; simp [h1]
theorem zd_changeT {s : zs_T} {a : Nat} {w v m : Int32} (ha : a < 64) (h : s 2 a = w ∧ s 3 a = 0) : fn_X3_change s (nI a) w v m = (zs_u (zs_u s 2 a v) 3 a m, 1) := by
  unfold fn_X3_change
  rw [if_neg (fun z => (zd_leads ha).mp z h), zq_c (by omega)]
  rfl
theorem zd_changeF {s : zs_T} {a : Nat} {w v m : Int32} (ha : a < 64) (h : ¬ (s 2 a = w ∧ s 3 a = 0)) : fn_X3_change s (nI a) w v m = (s, 0) := by
  unfold fn_X3_change
  rw [if_pos ((zd_leads ha).mpr h)]
theorem zd_okchange {s : zs_T} {a : Nat} {w v m : Int32} (ha : a < 64) (hm : zs_B m) : ok_X3_change s (nI a) w v m := by
  unfold ok_X3_change
  exact ⟨fun _ => trivial, fun _ => ⟨zq_in ha (by decide), ⟨hm, trivial⟩, trivial⟩⟩
theorem zd_len4 {p : Nat} : zc_len (4 + p) = 64 := by unfold zc_len; rw [if_neg (by omega)]
theorem zd_len0 {p : Nat} (h : p < 4) : zc_len p = 4 := by unfold zc_len; rw [if_pos h]
theorem zd_retire {s : zs_T} {p c r : Nat} (hc : c < 64) (hr : r < 64) (e : s 30 (4 + p) = nI r) : (fn_X3_retire s p (nI c)).1 = zs_u (zs_u (zs_u (zs_u (zs_u s 0 c 2) 7 c (s 34 0)) 34 0 (s 34 0 + 1)) (40 + (4 + p)) r (nI c)) 30 (4 + p) (nI (r + 1)) := by
  unfold fn_X3_retire
  rw [zd_nd hc, if_neg (by decide), zq_c (by omega)]
  exact zd_add (by rw [zd_len4]; exact hr) e
theorem zd_okretire {s : zs_T} {p c r : Nat} (hc : c < 64) (hr : r < 64) (e : s 30 (4 + p) = nI r) : ok_X3_retire s p (nI c) := by
  unfold ok_X3_retire
  refine ⟨fun _ => trivial, fun _ => ⟨zd_okadd (d := r) (by rw [zd_len4]; exact hr) ?_, trivial⟩⟩
  rw [zq_c (by omega)]
  exact e
theorem zd_free0 {s : zs_T} {p : Nat} (e : s 22 p = -1) : (fn_X3_freeOwn s p).1 = zs_u s 22 p (-1) := by
  unfold fn_X3_freeOwn
  rw [e, zd_nd0, if_pos rfl]
theorem zd_free1 {s : zs_T} {p n : Nat} (hn : n < 64) (e : s 22 p = nI n) : (fn_X3_freeOwn s p).1 = zs_u (zs_u s 0 n 0) 22 p (-1) := by
  unfold fn_X3_freeOwn
  rw [e, zd_nd hn, if_neg (by decide), zq_c (by omega)]
theorem zd_rest {s : zs_T} {p d : Nat} {v : Int32} (hd : d ≤ 4) (e : s 30 p = nI d) : (fn_X2_rest s p v).1 = zs_u (zs_u (zs_u (zs_u (zs_u (zs_u (zs_u (zs_u s 26 p v) 14 p 0) 15 p 0) 30 p 0) 18 p (-1)) 19 p (-1)) 20 p (-1)) 10 p 0 := by
  unfold fn_X2_rest
  rw [zd_cut0 (s := zs_u (zs_u (zs_u s 26 p v) 14 p 0) 15 p 0) (r := d) (by omega) e]
theorem zd_w {σ τ : zs_T} (hE : zr_E0 σ τ) {p d b : Nat} (hp : p < 4) (hB : zr_B τ p d b) : fr_X3_wantedOrder σ p = fr_X4_wanted τ (nI p) ∧ ok_X3_wantedOrder σ p := by
  obtain ⟨⟨k, hk, ek⟩, ⟨hd4, ed, -, -, hst⟩, -⟩ := hB
  obtain ⟨en, eb, -, ep, est, -⟩ := hE
  have p30 := (ep p hp).2.2.2.2.2.2.2.2.2.2.2.1
  have p12 := (ep p hp).2.2.1
  have hc : (nI p).toNatClampNeg = p := zq_c (by omega)
  have e30 : σ 30 p = nI d := p30.trans ed
  have e16 : 16 * nI p + nI d = nI (16 * p + d) := by rw [show (16 : Int32) = nI 16 from rfl, pk_mul, nI_add]
  constructor
  · unfold fr_X3_wantedOrder fr_X4_wanted fr_X1_isEmpty
    rw [hc, e30, ed]
    by_cases hd : nI d = 0
    · have hd0 : ¬ 0 < nI d := fun z => (zq_d0 hd4).mp z hd
      rw [if_pos hd, if_neg (by decide), if_neg hd0]
      unfold fr_X3_orderOfKey
      rw [p12, ek]
      obtain ⟨m, hm, em⟩ := zq_h0 k hk
      have e1 : fr_X3_hashOf σ (nI k) = nI m := em
      have e2 : fr_X4_hash τ (nI k) = nI m := em
      rw [e1, e2, zq_tt σ τ hm]
    · have hd0 : 0 < nI d := (zq_d0 hd4).mpr hd
      have hd1 : 1 ≤ d := by
        rcases Nat.eq_zero_or_pos d with h | h
        · rw [h] at hd; exact absurd nI_0 hd
        · exact h
      rw [if_neg hd, if_pos rfl, if_pos hd0]
      unfold fr_X3_orderOfBucket
      rw [zd_top (by omega) hd1 e30, e16, show (1 : Int32) = nI 1 from rfl, pk_sub (by omega), zq_c (by omega)]
      rw [est p (d - 1) hp (by omega) (by rw [ed, nI_ltI (by omega) (by omega)]; omega)]
      obtain ⟨bb, hbb, ebb⟩ := hst (d - 1) (by omega)
      have : 16 * p + d - 1 = 16 * p + (d - 1) := by omega
      rw [this, ebb, zq_tt σ τ (by omega)]
  · unfold ok_X3_wantedOrder
    refine ⟨fun h => ?_, fun h => ⟨⟨zq_ok3t _ _, trivial⟩, trivial⟩⟩
    have hd1 : 1 ≤ d := by
      rcases Nat.eq_zero_or_pos d with h0 | h0
      · unfold fr_X1_isEmpty at h
        rw [e30, h0, if_pos nI_0] at h
        exact absurd h (by decide)
      · exact h0
    exact ⟨zd_oktop (by rw [zd_len0 hp]; exact hd4) hd1 e30, ⟨zq_ok3t _ _, trivial⟩, trivial⟩
/-- of the other processes nothing changes -/
def zr_VC (σ σ' : zs_T) (q : Nat) : Prop := σ' 10 q = σ 10 q ∧ σ' 11 q = σ 11 q ∧ σ' 12 q = σ 12 q ∧ σ' 13 q = σ 13 q ∧ σ' 14 q = σ 14 q ∧ σ' 15 q = σ 15 q ∧ σ' 16 q = σ 16 q ∧ σ' 17 q = σ 17 q ∧ σ' 18 q = σ 18 q ∧ σ' 19 q = σ 19 q ∧ σ' 20 q = σ 20 q ∧ σ' 21 q = σ 21 q ∧ σ' 22 q = σ 22 q ∧ σ' 23 q = σ 23 q ∧ σ' 24 q = σ 24 q ∧ σ' 25 q = σ 25 q ∧ σ' 26 q = σ 26 q ∧ σ' 30 q = σ 30 q ∧ σ' 30 (4 + q) = σ 30 (4 + q) ∧ (∀ j, σ' (40 + q) j = σ (40 + q) j) ∧ (∀ j, σ' (44 + q) j = σ (44 + q) j)
def zr_VM (τ τ' : zs_T) (q : Nat) : Prop := τ' 10 q = τ 10 q ∧ τ' 11 q = τ 11 q ∧ τ' 12 q = τ 12 q ∧ τ' 13 q = τ 13 q ∧ τ' 14 q = τ 14 q ∧ τ' 15 q = τ 15 q ∧ τ' 16 q = τ 16 q ∧ τ' 17 q = τ 17 q ∧ τ' 18 q = τ 18 q ∧ τ' 19 q = τ 19 q ∧ τ' 20 q = τ 20 q ∧ τ' 21 q = τ 21 q ∧ τ' 22 q = τ 22 q ∧ τ' 23 q = τ 23 q ∧ τ' 24 q = τ 24 q ∧ τ' 25 q = τ 25 q ∧ τ' 26 q = τ 26 q ∧ τ' 30 q = τ 30 q ∧ τ' 29 q = τ 29 q ∧ (∀ j, j < 4 → τ' 27 (16 * q + j) = τ 27 (16 * q + j)) ∧ (∀ j, j < 64 → τ' 28 (64 * q + j) = τ 28 (64 * q + j))
theorem zr_E_up {σ τ σ' τ' : zs_T} {p : Nat} (hE : zr_E σ τ) (hp : p < 4) (hn : ∀ c k, c < 8 → k < 64 → σ' c k = τ' c k) (hb : ∀ b, b < 16 → σ' 31 b = τ' 31 b) (hs : σ' 32 0 = τ' 32 0 ∧ σ' 33 0 = τ' 33 0 ∧ σ' 34 0 = τ' 34 0)
    (hC : ∀ q, q < 4 → q ≠ p → zr_VC σ σ' q) (hM : ∀ q, q < 4 → q ≠ p → zr_VM τ τ' q)
    (h0 : σ' 10 p = τ' 10 p ∧ σ' 11 p = τ' 11 p ∧ σ' 12 p = τ' 12 p ∧ σ' 13 p = τ' 13 p ∧ σ' 14 p = τ' 14 p ∧ σ' 15 p = τ' 15 p ∧ σ' 16 p = τ' 16 p ∧ σ' 21 p = τ' 21 p ∧ σ' 22 p = τ' 22 p ∧ σ' 24 p = τ' 24 p ∧ σ' 26 p = τ' 26 p ∧ σ' 30 p = τ' 30 p ∧ σ' 30 (4 + p) = τ' 29 p)
    (hst : ∀ j, j < 4 → nI j < τ' 30 p → σ' (40 + p) j = τ' 27 (16 * p + j)) (hrow : ∀ j, j < 64 → nI j < τ' 29 p → σ' (44 + p) j = τ' 28 (64 * p + j)) (h1 : zr_E1 σ' τ' p) : zr_E σ' τ' := by
  obtain ⟨⟨en, eb, es, ep, est, erow⟩, e1⟩ := hE
  refine ⟨⟨hn, hb, hs, fun q hq => ?_, fun q j hq hj h => ?_, fun q j hq hj h => ?_⟩, fun q hq => ?_⟩
  · by_cases hqp : q = p
    · subst hqp; exact h0
    · obtain ⟨a10, a11, a12, a13, a14, a15, a16, a17, a18, a19, a20, a21, a22, a23, a24, a25, a26, a30, a30', ai, ar⟩ := hC q hq hqp
      obtain ⟨b10, b11, b12, b13, b14, b15, b16, b17, b18, b19, b20, b21, b22, b23, b24, b25, b26, b30, b29, bi, br⟩ := hM q hq hqp
      rw [a10, a11, a12, a13, a14, a15, a16, a21, a22, a24, a26, a30, a30', b10, b11, b12, b13, b14, b15, b16, b21, b22, b24, b26, b30, b29]
      exact ep q hq
  · by_cases hqp : q = p
    · subst hqp; exact hst j hj h
    · obtain ⟨a10, a11, a12, a13, a14, a15, a16, a17, a18, a19, a20, a21, a22, a23, a24, a25, a26, a30, a30', ai, ar⟩ := hC q hq hqp
      obtain ⟨b10, b11, b12, b13, b14, b15, b16, b17, b18, b19, b20, b21, b22, b23, b24, b25, b26, b30, b29, bi, br⟩ := hM q hq hqp
      rw [ai, bi j hj]
      rw [b30] at h
      exact est q j hq hj h
  · by_cases hqp : q = p
    · subst hqp; exact hrow j hj h
    · obtain ⟨a10, a11, a12, a13, a14, a15, a16, a17, a18, a19, a20, a21, a22, a23, a24, a25, a26, a30, a30', ai, ar⟩ := hC q hq hqp
      obtain ⟨b10, b11, b12, b13, b14, b15, b16, b17, b18, b19, b20, b21, b22, b23, b24, b25, b26, b30, b29, bi, br⟩ := hM q hq hqp
      rw [ar, br j hj]
      rw [b29] at h
      exact erow q j hq hj h
  · by_cases hqp : q = p
    · subst hqp; exact h1
    · obtain ⟨a10, a11, a12, a13, a14, a15, a16, a17, a18, a19, a20, a21, a22, a23, a24, a25, a26, a30, a30', ai, ar⟩ := hC q hq hqp
      obtain ⟨b10, b11, b12, b13, b14, b15, b16, b17, b18, b19, b20, b21, b22, b23, b24, b25, b26, b30, b29, bi, br⟩ := hM q hq hqp
      unfold zr_E1
      rw [a17, a18, a19, a20, a22, a23, a25, b10, b17, b18, b19, b20, b23, b24, b25]
      exact e1 q hq
