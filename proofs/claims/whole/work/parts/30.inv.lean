/-! THE PURE PART: the invariant of the reference's state. Nodes are told by their numbers; a reference x to a node n is x = nI n, none is -1. -/
def zr_O (τ : zs_T) (n : Nat) : Prop := ∃ q, q < 4 ∧ τ 22 q = nI n
/-- n stands in the list -/
def zr_L (τ : zs_T) (n : Nat) : Prop := n < 64 ∧ τ 0 n = 1 ∧ ¬ zr_O τ n
def zr_ev (v : Int32) : Prop := v.toInt % 2 = 0
/-- process p keeps n from being given back -/
def zr_Pt (τ : zs_T) (p n : Nat) : Prop := (zr_L τ n ∨ (n < 64 ∧ τ 0 n = 2 ∧ τ 14 p ≤ τ 7 n)) ∧ τ 6 n ≤ τ 15 p
def zr_rf (Q : Nat → Prop) (x : Int32) : Prop := x = -1 ∨ ∃ n, x = nI n ∧ Q n
def zr_nd (Q : Nat → Prop) (x : Int32) : Prop := ∃ n, x = nI n ∧ Q n
/-- the list, the rows, the buckets, the eras -/
def zr_G (N : Nat) (τ : zs_T) : Prop :=
  (∀ k, k < 64 → zs_B (τ 3 k)) ∧
  (∀ k, k < 64 → zr_rf (fun n => n < 64) (τ 2 k)) ∧
  (∀ n, zr_L τ n → zr_rf (zr_L τ) (τ 2 n)) ∧
  (∀ n m, zr_L τ n → zr_L τ m → τ 2 n = τ 2 m → τ 2 n ≠ -1 → n = m) ∧
  (∀ k, k < 64 → τ 0 k = 2 → τ 3 k = 1) ∧
  (∀ n, zr_L τ n → zr_ev (τ 1 n) → τ 3 n = 0) ∧
  (∀ b, b < 16 → zr_rf (fun n => zr_L τ n ∧ zr_ev (τ 1 n)) (τ 31 b)) ∧
  τ 31 0 ≠ -1 ∧
  (∀ q, q < 4 → zr_rf (fun n => n < 64 ∧ τ 0 n = 1) (τ 22 q)) ∧
  (∀ p q, p < 4 → q < 4 → τ 22 p = τ 22 q → τ 22 p ≠ -1 → p = q) ∧
  (∀ p, p < 4 → ∃ r, r ≤ 64 ∧ τ 29 p = nI r ∧ ∀ j, j < r → zr_nd (fun n => n < 64 ∧ τ 0 n = 2) (τ 28 (64 * p + j))) ∧
  (∀ p q i j, p < 4 → q < 4 → nI i < τ 29 p → nI j < τ 29 q → i < 64 → j < 64 → τ 28 (64 * p + i) = τ 28 (64 * q + j) → p = q ∧ i = j) ∧
  (1 ≤ (τ 34 0).toInt ∧ (τ 34 0).toInt ≤ 1 + N) ∧
  (∀ k, k < 64 → τ 6 k ≤ τ 34 0) ∧
  (τ 32 0 = 1 ∨ τ 32 0 = 2 ∨ τ 32 0 = 4 ∨ τ 32 0 = 8 ∨ τ 32 0 = 16)
/-- how many 1s the four bits have -/
def zr_pc (b : Nat) : Nat := b % 2 + b / 2 % 2 + b / 4 % 2 + b / 8 % 2
/-- a process, by its place -/
def zr_P (τ : zs_T) (p : Nat) : Prop :=
  (0 ≤ (τ 10 p).toInt ∧ (τ 10 p).toInt ≤ 13) ∧
  (∃ k, k < 256 ∧ τ 12 p = nI k) ∧
  (∃ d b, d ≤ 4 ∧ τ 30 p = nI d ∧ b < 16 ∧ τ 16 p = nI b ∧ (∀ j, j < d → ∃ b, b < 16 ∧ τ 27 (16 * p + j) = nI b) ∧ (τ 10 p = 2 → zr_pc b + d ≤ 4) ∧ (τ 10 p = 0 → d = 0)) ∧
  ((τ 10 p).toInt ≤ 2 → τ 22 p = -1) ∧
  zs_B (τ 21 p) ∧ zs_B (τ 24 p) ∧
  (2 ≤ (τ 10 p).toInt → τ 14 p ≤ τ 34 0 ∧ τ 15 p ≤ τ 34 0) ∧
  (3 ≤ (τ 10 p).toInt → (τ 10 p).toInt ≤ 11 → zr_nd (fun n => zr_L τ n ∧ zr_ev (τ 1 n)) (τ 17 p)) ∧
  (4 ≤ (τ 10 p).toInt → (τ 10 p).toInt ≤ 11 → τ 10 p ≠ 9 → zr_nd (zr_Pt τ p) (τ 18 p)) ∧
  (τ 10 p = 4 ∨ τ 10 p = 7 ∨ τ 10 p = 8 → zr_rf (zr_Pt τ p) (τ 19 p)) ∧
  (τ 10 p = 5 ∨ τ 10 p = 6 ∨ τ 10 p = 10 ∨ τ 10 p = 11 → zr_nd (zr_Pt τ p) (τ 19 p) ∧ zr_rf (fun n => n < 64) (τ 20 p)) ∧
  (τ 10 p = 5 ∨ τ 10 p = 6 → ∀ c, c < 64 → τ 19 p = nI c → τ 0 c = 2 ∨ zr_rf (zr_Pt τ p) (τ 20 p)) ∧
  ((τ 10 p = 5 ∧ τ 21 p = 1) ∨ τ 10 p = 6 ∨ τ 10 p = 11 → ∀ c, c < 64 → τ 19 p = nI c → τ 3 c = 1 ∧ τ 2 c = τ 20 p) ∧
  (∀ n, n < 64 → τ 22 p = nI n → τ 30 p ≠ 0 → zr_ev (τ 1 n)) ∧
  (τ 10 p = 8 → zr_nd (fun n => n < 64 ∧ τ 2 n = τ 19 p ∧ τ 3 n = 0) (τ 22 p)) ∧
  (τ 10 p = 9 → zr_nd (fun n => zr_L τ n ∧ zr_ev (τ 1 n)) (τ 23 p) ∧ τ 30 p ≠ 0) ∧
  (τ 10 p = 10 → ∀ c, c < 64 → τ 19 p = nI c → ¬ zr_ev (τ 1 c))
def zr_I (N : Nat) (τ : zs_T) : Prop := zr_G N τ ∧ ∀ p, p < 4 → zr_P τ p
/-- the class's state σ and the reference's τ -/
def zr_E0 (σ τ : zs_T) : Prop :=
  (∀ c k, c < 8 → k < 64 → σ c k = τ c k) ∧
  (∀ b, b < 16 → σ 31 b = τ 31 b) ∧
  (σ 32 0 = τ 32 0 ∧ σ 33 0 = τ 33 0 ∧ σ 34 0 = τ 34 0) ∧
  (∀ p, p < 4 → σ 10 p = τ 10 p ∧ σ 11 p = τ 11 p ∧ σ 12 p = τ 12 p ∧ σ 13 p = τ 13 p ∧ σ 14 p = τ 14 p ∧ σ 15 p = τ 15 p ∧ σ 16 p = τ 16 p ∧ σ 21 p = τ 21 p ∧ σ 22 p = τ 22 p ∧ σ 24 p = τ 24 p ∧ σ 26 p = τ 26 p ∧ σ 30 p = τ 30 p ∧ σ 30 (4 + p) = τ 29 p) ∧
  (∀ p j, p < 4 → j < 4 → nI j < τ 30 p → σ (40 + p) j = τ 27 (16 * p + j)) ∧
  (∀ p j, p < 4 → j < 64 → nI j < τ 29 p → σ (44 + p) j = τ 28 (64 * p + j))
def zr_E1 (σ τ : zs_T) (p : Nat) : Prop :=
  (τ 10 p ≠ 0 → σ 18 p = τ 18 p ∧ σ 19 p = τ 19 p ∧ σ 20 p = τ 20 p) ∧
  (τ 10 p = 0 → σ 18 p = -1 ∧ σ 19 p = -1 ∧ σ 20 p = -1 ∧ σ 22 p = -1) ∧
  (3 ≤ (τ 10 p).toInt → σ 17 p = τ 17 p) ∧
  (τ 10 p = 9 → σ 23 p = τ 23 p) ∧
  (τ 10 p = 11 ∨ τ 10 p = 12 ∨ τ 24 p = 1 → σ 25 p = τ 25 p)
def zr_E (σ τ : zs_T) : Prop := zr_E0 σ τ ∧ ∀ p, p < 4 → zr_E1 σ τ p
