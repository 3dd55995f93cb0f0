/-! helpers: what the small functions of both sides come to -/
theorem zq_c {n : Nat} (h : n < 2 ^ 31) : (nI n).toNatClampNeg = n := nI_clamp h
theorem zq_u (τ : zs_T) (c k : Nat) (v : Int32) (a b : Nat) : zs_u τ c k v a b = if a = c ∧ b = k then v else τ a b := rfl
theorem zq_in {n N : Nat} (h : n < N) (hN : N < 2 ^ 31) : vp_in (nI n) N := vp_in_nI h hN
theorem zq_m1 {n : Nat} (h : n < 2 ^ 31) : nI n ≠ -1 := by
  intro q
  have h1 := congrArg Int32.toInt q
  rw [nI_toInt h] at h1
  have h2 : (-1 : Int32).toInt = -1 := rfl
  omega
theorem zq_ge {n : Nat} (h : n < 2 ^ 31) : ¬ nI n < 0 := nI_pos h
theorem zq_lt0 : (-1 : Int32) < 0 := by decide
-- turned
theorem zq_t3s (σ σ' : zs_T) : ∀ n x a i, fr_X3_turned_L4 n σ x a i = fr_X3_turned_L4 n σ' x a i := by
  intro n
  induction n with
  | zero => intro x a i; rfl
  | succ n ih => intro x a i; rw [fr_X3_turned_L4, fr_X3_turned_L4, ih]
theorem zq_t4s (σ σ' : zs_T) : ∀ n x a i, fr_X4_turned_L4 n σ x a i = fr_X4_turned_L4 n σ' x a i := by
  intro n
  induction n with
  | zero => intro x a i; rfl
  | succ n ih => intro x a i; rw [fr_X4_turned_L4, fr_X4_turned_L4, ih, ih]
def zq_0 : zs_T := fun _ _ => 0
theorem zq_tt0 : ∀ n, n < 256 → fr_X3_turned zq_0 (nI n) = fr_X4_turned zq_0 (nI n) := by decide +kernel
theorem zq_tt (σ τ : zs_T) {n : Nat} (h : n < 256) : fr_X3_turned σ (nI n) = fr_X4_turned τ (nI n) := by
  have e1 : fr_X3_turned σ (nI n) = fr_X3_turned zq_0 (nI n) := zq_t3s _ _ _ _ _ _
  have e2 : fr_X4_turned τ (nI n) = fr_X4_turned zq_0 (nI n) := zq_t4s _ _ _ _ _ _
  rw [e1, e2]
  exact zq_tt0 n h
theorem zq_t4c (τ τ' : zs_T) (x : Int32) : fr_X4_turned τ x = fr_X4_turned τ' x := zq_t4s _ _ _ _ _ _
theorem zq_ok3t (σ : zs_T) (x : Int32) : ok_X3_turned σ x := by
  unfold ok_X3_turned
  repeat (rw [ok_X3_turned_L4]; refine ⟨fun _ => ?_, fun _ => trivial⟩)
  rename_i h
  exact absurd h (by decide)
theorem zq_ok4t (σ : zs_T) (x : Int32) : ok_X4_turned σ x := by
  have key : ∀ j, j ≤ 8 → ∀ a, ok_X4_turned_L4 (j + 1) σ x a (nI (8 - j)) := by
    intro j
    induction j with
    | zero => intro _ a; rw [ok_X4_turned_L4]; exact ⟨fun h => absurd h (by decide), fun _ => trivial⟩
    | succ j ih =>
      intro hj a
      have e : nI (8 - (j + 1)) + 1 = nI (8 - j) := by rw [nI_1]; congr 1; omega
      rw [ok_X4_turned_L4]
      refine ⟨fun _ => ⟨fun _ => ?_, fun _ => ?_⟩, fun _ => trivial⟩
      · rw [e]; exact ih (by omega) _
      · rw [e]; exact ih (by omega) _
  exact key 8 (by decide) 0
-- hash, bucket, parent
theorem zq_h0 : ∀ n, n < 256 → ∃ m, m < 256 ∧ fr_X4_hash zq_0 (nI n) = nI m := by
  intro n hn
  have e : nI n * 167 = nI (n * 167) := pk_mul n 167
  refine ⟨n * 167 % 256, by omega, ?_⟩
  show nI n * 167 - nI n * 167 / 256 * 256 = _
  rw [e]
  exact pk_rem (d := 256) (by omega) (by decide) (by decide)
theorem zq_bk0 : ∀ n, n < 256 → (fr_X4_hash zq_0 (nI n) &&& (1 - 1) = fr_X4_hash zq_0 (nI n) - fr_X4_hash zq_0 (nI n) / 1 * 1) ∧ (fr_X4_hash zq_0 (nI n) &&& (2 - 1) = fr_X4_hash zq_0 (nI n) - fr_X4_hash zq_0 (nI n) / 2 * 2) ∧ (fr_X4_hash zq_0 (nI n) &&& (4 - 1) = fr_X4_hash zq_0 (nI n) - fr_X4_hash zq_0 (nI n) / 4 * 4) ∧ (fr_X4_hash zq_0 (nI n) &&& (8 - 1) = fr_X4_hash zq_0 (nI n) - fr_X4_hash zq_0 (nI n) / 8 * 8) ∧ (fr_X4_hash zq_0 (nI n) &&& (16 - 1) = fr_X4_hash zq_0 (nI n) - fr_X4_hash zq_0 (nI n) / 16 * 16) := by decide +kernel
theorem zq_bk (τ : zs_T) {n : Nat} (hn : n < 256) {z : Int32} (hz : z = 1 ∨ z = 2 ∨ z = 4 ∨ z = 8 ∨ z = 16) : fr_X4_hash τ (nI n) &&& (z - 1) = fr_X4_hash τ (nI n) - fr_X4_hash τ (nI n) / z * z := by
  obtain ⟨h1, h2, h3, h4, h5⟩ := zq_bk0 n hn
  rcases hz with rfl | rfl | rfl | rfl | rfl
  · exact h1
  · exact h2
  · exact h3
  · exact h4
  · exact h5
theorem zq_at (τ : zs_T) {n : Nat} (hn : n < 256) {z : Int32} (hz : z = 1 ∨ z = 2 ∨ z = 4 ∨ z = 8 ∨ z = 16) : ∃ b, b < 16 ∧ fr_X4_hash τ (nI n) - fr_X4_hash τ (nI n) / z * z = nI b := by
  obtain ⟨m, hm, e⟩ := zq_h0 n hn
  have e : fr_X4_hash τ (nI n) = nI m := e
  rw [e]
  rcases hz with rfl | rfl | rfl | rfl | rfl
  · exact ⟨m % 1, by omega, pk_rem (d := 1) (by omega) (by decide) (by decide)⟩
  · exact ⟨m % 2, by omega, pk_rem (d := 2) (by omega) (by decide) (by decide)⟩
  · exact ⟨m % 4, by omega, pk_rem (d := 4) (by omega) (by decide) (by decide)⟩
  · exact ⟨m % 8, by omega, pk_rem (d := 8) (by omega) (by decide) (by decide)⟩
  · exact ⟨m % 16, by omega, pk_rem (d := 16) (by omega) (by decide) (by decide)⟩
theorem zq_p3s (σ σ' : zs_T) : ∀ n x i, fr_X3_parentOf_L3 n σ x i = fr_X3_parentOf_L3 n σ' x i := by
  intro n
  induction n with
  | zero => intro x i; rfl
  | succ n ih => intro x i; rw [fr_X3_parentOf_L3, fr_X3_parentOf_L3, ih]
theorem zq_p4s (σ σ' : zs_T) : ∀ n x i, fr_X4_parent_L3 n σ x i = fr_X4_parent_L3 n σ' x i := by
  intro n
  induction n with
  | zero => intro x i; rfl
  | succ n ih => intro x i; rw [fr_X4_parent_L3, fr_X4_parent_L3, ih]
def zq_par (b : Nat) : Nat := if b < 1 then 0 else if b < 2 then b - 1 else if b < 4 then b - 2 else if b < 8 then b - 4 else b - 8
theorem zq_pp0 : ∀ b, b < 16 → fr_X3_parentOf zq_0 (nI b) = nI (zq_par b) ∧ fr_X4_parent zq_0 (nI b) = nI (zq_par b) := by decide +kernel
theorem zq_pp3 (σ : zs_T) {b : Nat} (h : b < 16) : fr_X3_parentOf σ (nI b) = nI (zq_par b) := (zq_p3s _ zq_0 _ _ _).trans (zq_pp0 b h).1
theorem zq_pp4 (σ : zs_T) {b : Nat} (h : b < 16) : fr_X4_parent σ (nI b) = nI (zq_par b) := (zq_p4s _ zq_0 _ _ _).trans (zq_pp0 b h).2
theorem zq_par16 {b : Nat} (h : b < 16) : zq_par b < 16 := by unfold zq_par; split <;> (try split) <;> (try split) <;> (try split) <;> omega
theorem zq_parc : ∀ b, b < 16 → b ≠ 0 → zr_pc (zq_par b) + 1 = zr_pc b := by decide +kernel
theorem zq_pc4 : ∀ b, b < 16 → zr_pc b ≤ 4 := by decide +kernel
theorem zq_ok3p (σ : zs_T) (x : Int32) : ok_X3_parentOf σ x := by
  unfold ok_X3_parentOf
  repeat (rw [ok_X3_parentOf_L3]; refine ⟨fun _ => ⟨fun _ => ?_, fun _ => trivial⟩, fun _ => trivial⟩)
  rename_i h _
  exact absurd h (by decide)
theorem zq_ok4p (σ : zs_T) {b : Nat} (hb : b < 16) : ok_X4_parent σ (nI b) := by
  unfold ok_X4_parent
  repeat (rw [ok_X4_parent_L3]; refine ⟨fun _ => ?_, fun _ => trivial⟩)
  rename_i h
  have e : (8 : Int32) / 2 / 2 / 2 / 2 / 2 = 0 := by decide
  exact absurd h (by rw [show (8 : Int32) / 2 / 2 / 2 / 2 / 2 = 0 from by decide]; exact zq_ge (by omega))
theorem zq_ev2 (x : Int32) : zr_ev (2 * x) := by
  unfold zr_ev
  rw [Int32.toInt_mul]
  have : (2 : Int32).toInt = 2 := rfl
  rw [this, Int.bmod_def]
  split <;> omega
theorem zq_od2 (x : Int32) : ¬ zr_ev (2 * x + 1) := by
  unfold zr_ev
  rw [Int32.toInt_add, Int32.toInt_mul]
  have h2 : (2 : Int32).toInt = 2 := rfl
  have h1 : (1 : Int32).toInt = 1 := rfl
  rw [h2, h1, Int.bmod_def, Int.bmod_def]
  split <;> split <;> omega
/-- as many different places below n as there are: at most n -/
theorem zq_pigeon : ∀ (n r : Nat) (f : Nat → Nat), (∀ i, i < r → f i < n) → (∀ i j, i < r → j < r → f i = f j → i = j) → r ≤ n := by
  intro n
  induction n with
  | zero =>
    intro r f h _
    rcases Nat.eq_zero_or_pos r with h0 | h0
    · omega
    · exact absurd (h 0 h0) (by omega)
  | succ n ih =>
    intro r f h hi
    by_cases hx : ∃ a, a < r ∧ f a = n
    · obtain ⟨a, ha, ea⟩ := hx
      have hr : r - 1 ≤ n := by
        refine ih (r - 1) (fun i => if i < a then f i else f (i + 1)) (fun i hi' => ?_) (fun i j hi' hj' e => ?_)
        · split
          · rename_i hlt
            have h1 := h i (by omega)
            have h2 : f i ≠ n := fun q => by have := hi i a (by omega) ha (q.trans ea.symm); omega
            omega
          · rename_i hlt
            have h1 := h (i + 1) (by omega)
            have h2 : f (i + 1) ≠ n := fun q => by have := hi (i + 1) a (by omega) ha (q.trans ea.symm); omega
            omega
        · split at e <;> split at e
          · exact hi i j (by omega) (by omega) e
          · have := hi i (j + 1) (by omega) (by omega) e; omega
          · have := hi (i + 1) j (by omega) (by omega) e; omega
          · have := hi (i + 1) (j + 1) (by omega) (by omega) e; omega
      omega
    · have := ih r f (fun i hi' => by
        have h1 := h i hi'
        have h2 : f i ≠ n := fun q => hx ⟨i, hi', q⟩
        omega) hi
      omega
