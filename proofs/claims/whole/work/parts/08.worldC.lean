def zc_len (t : Nat) : Nat := if t < 4 then 4 else 64
abbrev tysC (cI cN cW : ClassId) : List (ClassId × FieldType) := [(cI, .int), (cN, .object RX0), (cW, .object RX2)]
/-- the cells of a SplitStore, told by a pure state -/
def wC (cI cN cW : ClassId) (ad : Nat → Nat) (σ : zs_T) (i : Nat) : va_E :=
  if i = 0 then .inr (3, [.ref (ad 1), .ref (ad 2), .ref (ad 3), .int (σ 32 0), .int (σ 33 0), .int (σ 34 0)])
  else if i = 1 then .inl (cN, 64, .inr (.inr (.inr (.inr (fun j => some (ad (4 + j)))))))
  else if i = 2 then .inl (cW, 4, .inr (.inr (.inr (.inr (fun j => some (ad (68 + j)))))))
  else if i = 3 then .inl (cI, 16, .inl (σ 31))
  else if i < 68 then .inr (0, [.int (σ 0 (i - 4)), .int (σ 1 (i - 4)), .int (σ 2 (i - 4)), .int (σ 3 (i - 4)), .int (σ 4 (i - 4)), .int (σ 5 (i - 4)), .int (σ 6 (i - 4)), .int (σ 7 (i - 4))])
  else if i < 72 then .inr (2, [.int (σ 10 (i - 68)), .int (σ 11 (i - 68)), .int (σ 12 (i - 68)), .int (σ 13 (i - 68)), .int (σ 14 (i - 68)), .int (σ 15 (i - 68)), .int (σ 16 (i - 68)), .ref (ad (72 + (i - 68))), .int (σ 17 (i - 68)), .int (σ 18 (i - 68)), .int (σ 19 (i - 68)), .int (σ 20 (i - 68)), .int (σ 21 (i - 68)), .int (σ 22 (i - 68)), .int (σ 23 (i - 68)), .int (σ 24 (i - 68)), .int (σ 25 (i - 68)), .int (σ 26 (i - 68)), .ref (ad (72 + (4 + (i - 68))))])
  else if i < 80 then .inr (1, [.ref (ad (80 + (i - 72))), .int (σ 30 (i - 72))])
  else .inl (cI, zc_len (i - 80), .inl (σ (40 + (i - 80))))
section ZC
variable {cI cN cW : ClassId} {ad : Nat → Nat} {σ : zs_T} {k : Nat}
theorem zc_S : wC cI cN cW ad σ 0 = .inr (3, [.ref (ad 1), .ref (ad 2), .ref (ad 3), .int (σ 32 0), .int (σ 33 0), .int (σ 34 0)]) := rfl
theorem zc_NODES : wC cI cN cW ad σ 1 = .inl (cN, 64, .inr (.inr (.inr (.inr (fun j => some (ad (4 + j))))))) := rfl
theorem zc_WORKERS : wC cI cN cW ad σ 2 = .inl (cW, 4, .inr (.inr (.inr (.inr (fun j => some (ad (68 + j))))))) := rfl
theorem zc_BK : wC cI cN cW ad σ 3 = .inl (cI, 16, .inl (σ 31)) := rfl
theorem zc_Node (h : k < 64) : wC cI cN cW ad σ (4 + k) = .inr (0, [.int (σ 0 k), .int (σ 1 k), .int (σ 2 k), .int (σ 3 k), .int (σ 4 k), .int (σ 5 k), .int (σ 6 k), .int (σ 7 k)]) := by
  have e : 4 + k - 4 = k := by omega
  unfold wC
  rw [if_neg (by omega), if_neg (by omega), if_neg (by omega), if_neg (by omega), if_pos (by omega), e]
theorem zc_Worker (h : k < 4) : wC cI cN cW ad σ (68 + k) = .inr (2, [.int (σ 10 k), .int (σ 11 k), .int (σ 12 k), .int (σ 13 k), .int (σ 14 k), .int (σ 15 k), .int (σ 16 k), .ref (ad (72 + k)), .int (σ 17 k), .int (σ 18 k), .int (σ 19 k), .int (σ 20 k), .int (σ 21 k), .int (σ 22 k), .int (σ 23 k), .int (σ 24 k), .int (σ 25 k), .int (σ 26 k), .ref (ad (72 + (4 + k)))]) := by
  have e : 68 + k - 68 = k := by omega
  unfold wC
  rw [if_neg (by omega), if_neg (by omega), if_neg (by omega), if_neg (by omega), if_neg (by omega), if_pos (by omega), e]
theorem zc_Num (h : k < 8) : wC cI cN cW ad σ (72 + k) = .inr (1, [.ref (ad (80 + k)), .int (σ 30 k)]) := by
  have e : 72 + k - 72 = k := by omega
  unfold wC
  rw [if_neg (by omega), if_neg (by omega), if_neg (by omega), if_neg (by omega), if_neg (by omega), if_neg (by omega), if_pos (by omega), e]
theorem zc_Items (h : k < 8) : wC cI cN cW ad σ (80 + k) = .inl (cI, zc_len k, .inl (σ (40 + k))) := by
  have e : 80 + k - 80 = k := by omega
  unfold wC
  rw [if_neg (by omega), if_neg (by omega), if_neg (by omega), if_neg (by omega), if_neg (by omega), if_neg (by omega), if_neg (by omega), e]
theorem zc_8a {p : Nat} (h : p < 4) : p < 8 := by omega
theorem zc_8b {p : Nat} (h : p < 4) : 4 + p < 8 := by omega
theorem zc_recvS : 0 < 88 ∧ wC cI cN cW ad σ 0 = .inr (3, [.ref (ad 1), .ref (ad 2), .ref (ad 3), .int (σ 32 0), .int (σ 33 0), .int (σ 34 0)]) := ⟨by decide, rfl⟩
theorem zc_recvNode (h : k < 64) : 4 + k < 88 ∧ wC cI cN cW ad σ (4 + k) = .inr (0, [.int (σ 0 k), .int (σ 1 k), .int (σ 2 k), .int (σ 3 k), .int (σ 4 k), .int (σ 5 k), .int (σ 6 k), .int (σ 7 k)]) := ⟨by omega, zc_Node h⟩
theorem zc_recvWorker (h : k < 4) : 68 + k < 88 ∧ wC cI cN cW ad σ (68 + k) = .inr (2, [.int (σ 10 k), .int (σ 11 k), .int (σ 12 k), .int (σ 13 k), .int (σ 14 k), .int (σ 15 k), .int (σ 16 k), .ref (ad (72 + k)), .int (σ 17 k), .int (σ 18 k), .int (σ 19 k), .int (σ 20 k), .int (σ 21 k), .int (σ 22 k), .int (σ 23 k), .int (σ 24 k), .int (σ 25 k), .int (σ 26 k), .ref (ad (72 + (4 + k)))]) := ⟨by omega, zc_Worker h⟩
theorem zc_recvNum (h : k < 8) : 72 + k < 88 ∧ wC cI cN cW ad σ (72 + k) = .inr (1, [.ref (ad (80 + k)), .int (σ 30 k)]) := ⟨by omega, zc_Num h⟩
theorem zs_uc {σ : zs_T} {c k a : Nat} {v : Int32} (h : a ≠ c) : zs_u σ c k v a = σ a := by funext b; simp [zs_u, h]
theorem zs_uk {σ : zs_T} {c k a b : Nat} {v : Int32} (h : b ≠ k) : zs_u σ c k v a b = σ a b := by simp [zs_u, h]
theorem zs_us {σ : zs_T} {c k : Nat} {v : Int32} : zs_u σ c k v c k = v := by simp [zs_u]
theorem zc_off_Node {c : Nat} (hc : c < 8) (v : Int32) : ∀ i, i < 88 → i ≠ 4 + k → wC cI cN cW ad (zs_u σ c k v) i = wC cI cN cW ad σ i := by
  intro i hi hne
  have e : ∀ a, 8 ≤ a → zs_u σ c k v a = σ a := fun a h => zs_uc (by omega)
  unfold wC
  simp only [e 10 (by omega), e 11 (by omega), e 12 (by omega), e 13 (by omega), e 14 (by omega), e 15 (by omega), e 16 (by omega), e 17 (by omega), e 18 (by omega), e 19 (by omega), e 20 (by omega), e 21 (by omega), e 22 (by omega), e 23 (by omega), e 24 (by omega), e 25 (by omega), e 26 (by omega), e 30 (by omega), e 31 (by omega), e 32 (by omega), e 33 (by omega), e 34 (by omega), e (40 + (i - 80)) (by omega)]
  by_cases h4 : i < 4
  · rcases (show i = 0 ∨ i = 1 ∨ i = 2 ∨ i = 3 by omega) with rfl | rfl | rfl | rfl <;> rfl
  · by_cases h68 : i < 68
    · have e2 : ∀ a, zs_u σ c k v a (i - 4) = σ a (i - 4) := fun a => zs_uk (by omega)
      simp only [e2]
    · simp only [if_neg h68]
theorem zc_off_Worker {c : Nat} (hc : 10 ≤ c ∧ c < 30) (v : Int32) : ∀ i, i < 88 → i ≠ 68 + k → wC cI cN cW ad (zs_u σ c k v) i = wC cI cN cW ad σ i := by
  intro i hi hne
  have e : ∀ a, (a < 10 ∨ 30 ≤ a) → zs_u σ c k v a = σ a := fun a h => zs_uc (by omega)
  unfold wC
  simp only [e 0 (by omega), e 1 (by omega), e 2 (by omega), e 3 (by omega), e 4 (by omega), e 5 (by omega), e 6 (by omega), e 7 (by omega), e 30 (by omega), e 31 (by omega), e 32 (by omega), e 33 (by omega), e 34 (by omega), e (40 + (i - 80)) (by omega)]
  by_cases h4 : i < 4
  · rcases (show i = 0 ∨ i = 1 ∨ i = 2 ∨ i = 3 by omega) with rfl | rfl | rfl | rfl <;> rfl
  · by_cases h68 : i < 68
    · simp only [if_pos h68]
    · by_cases h72 : i < 72
      · have e2 : ∀ a, zs_u σ c k v a (i - 68) = σ a (i - 68) := fun a => zs_uk (by omega)
        simp only [e2]
      · simp only [if_neg h68, if_neg h72]
theorem zc_off_Num {c : Nat} (hc : c = 30) (v : Int32) : ∀ i, i < 88 → i ≠ 72 + k → wC cI cN cW ad (zs_u σ c k v) i = wC cI cN cW ad σ i := by
  intro i hi hne
  have e : ∀ a, a ≠ 30 → zs_u σ c k v a = σ a := fun a h => zs_uc (by omega)
  unfold wC
  simp only [e 0 (by omega), e 1 (by omega), e 2 (by omega), e 3 (by omega), e 4 (by omega), e 5 (by omega), e 6 (by omega), e 7 (by omega), e 10 (by omega), e 11 (by omega), e 12 (by omega), e 13 (by omega), e 14 (by omega), e 15 (by omega), e 16 (by omega), e 17 (by omega), e 18 (by omega), e 19 (by omega), e 20 (by omega), e 21 (by omega), e 22 (by omega), e 23 (by omega), e 24 (by omega), e 25 (by omega), e 26 (by omega), e 31 (by omega), e 32 (by omega), e 33 (by omega), e 34 (by omega), e (40 + (i - 80)) (by omega)]
  by_cases h4 : i < 4
  · rcases (show i = 0 ∨ i = 1 ∨ i = 2 ∨ i = 3 by omega) with rfl | rfl | rfl | rfl <;> rfl
  · by_cases h72 : i < 72
    · simp only [if_pos h72]
    · by_cases h80 : i < 80
      · have e2 : ∀ a, zs_u σ c k v a (i - 72) = σ a (i - 72) := fun a => zs_uk (by omega)
        simp only [e2]
      · simp only [if_neg h72, if_neg h80]
theorem zc_off_S {c : Nat} (hc : 32 ≤ c ∧ c < 35) (v : Int32) : ∀ i, i < 88 → i ≠ 0 → wC cI cN cW ad (zs_u σ c k v) i = wC cI cN cW ad σ i := by
  intro i hi hne
  have e : ∀ a, (a < 32 ∨ 35 ≤ a) → zs_u σ c k v a = σ a := fun a h => zs_uc (by omega)
  unfold wC
  simp only [e 0 (by omega), e 1 (by omega), e 2 (by omega), e 3 (by omega), e 4 (by omega), e 5 (by omega), e 6 (by omega), e 7 (by omega), e 10 (by omega), e 11 (by omega), e 12 (by omega), e 13 (by omega), e 14 (by omega), e 15 (by omega), e 16 (by omega), e 17 (by omega), e 18 (by omega), e 19 (by omega), e 20 (by omega), e 21 (by omega), e 22 (by omega), e 23 (by omega), e 24 (by omega), e 25 (by omega), e 26 (by omega), e 30 (by omega), e 31 (by omega), e (40 + (i - 80)) (by omega)]
  simp only [if_neg hne]
theorem zc_off_bk {c : Nat} (hc : c = 31) (v : Int32) : ∀ i, i < 88 → i ≠ 3 → wC cI cN cW ad (zs_u σ c k v) i = wC cI cN cW ad σ i := by
  intro i hi hne
  have e : ∀ a, a ≠ 31 → zs_u σ c k v a = σ a := fun a h => zs_uc (by omega)
  unfold wC
  simp only [e 0 (by omega), e 1 (by omega), e 2 (by omega), e 3 (by omega), e 4 (by omega), e 5 (by omega), e 6 (by omega), e 7 (by omega), e 10 (by omega), e 11 (by omega), e 12 (by omega), e 13 (by omega), e 14 (by omega), e 15 (by omega), e 16 (by omega), e 17 (by omega), e 18 (by omega), e 19 (by omega), e 20 (by omega), e 21 (by omega), e 22 (by omega), e 23 (by omega), e 24 (by omega), e 25 (by omega), e 26 (by omega), e 30 (by omega), e 32 (by omega), e 33 (by omega), e 34 (by omega), e (40 + (i - 80)) (by omega)]
  simp only [if_neg hne]
theorem zc_off_items {c t : Nat} (hc : c = 40 + t) (ht : t < 8) (v : Int32) : ∀ i, i < 88 → i ≠ 80 + t → wC cI cN cW ad (zs_u σ c k v) i = wC cI cN cW ad σ i := by
  intro i hi hne
  have e : ∀ a, a < 40 → zs_u σ c k v a = σ a := fun a h => zs_uc (by omega)
  have e7 : ∀ a, a ≠ 40 + t → zs_u σ c k v a = σ a := fun a h => zs_uc (by omega)
  unfold wC
  simp only [e 0 (by omega), e 1 (by omega), e 2 (by omega), e 3 (by omega), e 4 (by omega), e 5 (by omega), e 6 (by omega), e 7 (by omega), e 10 (by omega), e 11 (by omega), e 12 (by omega), e 13 (by omega), e 14 (by omega), e 15 (by omega), e 16 (by omega), e 17 (by omega), e 18 (by omega), e 19 (by omega), e 20 (by omega), e 21 (by omega), e 22 (by omega), e 23 (by omega), e 24 (by omega), e 25 (by omega), e 26 (by omega), e 30 (by omega), e 31 (by omega), e 32 (by omega), e 33 (by omega), e 34 (by omega)]
  by_cases h80 : i < 80
  · simp only [if_pos h80]
  · rw [e7 (40 + (i - 80)) (by omega)]
theorem zc_set_Node_state (h : k < 64) (v : Int32) : zs_S 88 (wC cI cN cW ad) σ (4 + k) (.inr (0, ([.int (σ 0 k), .int (σ 1 k), .int (σ 2 k), .int (σ 3 k), .int (σ 4 k), .int (σ 5 k), .int (σ 6 k), .int (σ 7 k)] : List Value).set 0 (.int v))) (zs_u σ 0 k v) := ⟨by omega, by rw [zc_Node h]; simp [zs_u], zc_off_Node (by decide) v⟩
theorem zc_set_Node_order (h : k < 64) (v : Int32) : zs_S 88 (wC cI cN cW ad) σ (4 + k) (.inr (0, ([.int (σ 0 k), .int (σ 1 k), .int (σ 2 k), .int (σ 3 k), .int (σ 4 k), .int (σ 5 k), .int (σ 6 k), .int (σ 7 k)] : List Value).set 1 (.int v))) (zs_u σ 1 k v) := ⟨by omega, by rw [zc_Node h]; simp [zs_u], zc_off_Node (by decide) v⟩
theorem zc_set_Node_next (h : k < 64) (v : Int32) : zs_S 88 (wC cI cN cW ad) σ (4 + k) (.inr (0, ([.int (σ 0 k), .int (σ 1 k), .int (σ 2 k), .int (σ 3 k), .int (σ 4 k), .int (σ 5 k), .int (σ 6 k), .int (σ 7 k)] : List Value).set 2 (.int v))) (zs_u σ 2 k v) := ⟨by omega, by rw [zc_Node h]; simp [zs_u], zc_off_Node (by decide) v⟩
theorem zc_set_Node_marked (h : k < 64) (v : Int32) : zs_S 88 (wC cI cN cW ad) σ (4 + k) (.inr (0, ([.int (σ 0 k), .int (σ 1 k), .int (σ 2 k), .int (σ 3 k), .int (σ 4 k), .int (σ 5 k), .int (σ 6 k), .int (σ 7 k)] : List Value).set 3 (.int v))) (zs_u σ 3 k v) := ⟨by omega, by rw [zc_Node h]; simp [zs_u], zc_off_Node (by decide) v⟩
theorem zc_set_Node_key (h : k < 64) (v : Int32) : zs_S 88 (wC cI cN cW ad) σ (4 + k) (.inr (0, ([.int (σ 0 k), .int (σ 1 k), .int (σ 2 k), .int (σ 3 k), .int (σ 4 k), .int (σ 5 k), .int (σ 6 k), .int (σ 7 k)] : List Value).set 4 (.int v))) (zs_u σ 4 k v) := ⟨by omega, by rw [zc_Node h]; simp [zs_u], zc_off_Node (by decide) v⟩
theorem zc_set_Node_value (h : k < 64) (v : Int32) : zs_S 88 (wC cI cN cW ad) σ (4 + k) (.inr (0, ([.int (σ 0 k), .int (σ 1 k), .int (σ 2 k), .int (σ 3 k), .int (σ 4 k), .int (σ 5 k), .int (σ 6 k), .int (σ 7 k)] : List Value).set 5 (.int v))) (zs_u σ 5 k v) := ⟨by omega, by rw [zc_Node h]; simp [zs_u], zc_off_Node (by decide) v⟩
theorem zc_set_Node_born (h : k < 64) (v : Int32) : zs_S 88 (wC cI cN cW ad) σ (4 + k) (.inr (0, ([.int (σ 0 k), .int (σ 1 k), .int (σ 2 k), .int (σ 3 k), .int (σ 4 k), .int (σ 5 k), .int (σ 6 k), .int (σ 7 k)] : List Value).set 6 (.int v))) (zs_u σ 6 k v) := ⟨by omega, by rw [zc_Node h]; simp [zs_u], zc_off_Node (by decide) v⟩
theorem zc_set_Node_died (h : k < 64) (v : Int32) : zs_S 88 (wC cI cN cW ad) σ (4 + k) (.inr (0, ([.int (σ 0 k), .int (σ 1 k), .int (σ 2 k), .int (σ 3 k), .int (σ 4 k), .int (σ 5 k), .int (σ 6 k), .int (σ 7 k)] : List Value).set 7 (.int v))) (zs_u σ 7 k v) := ⟨by omega, by rw [zc_Node h]; simp [zs_u], zc_off_Node (by decide) v⟩
theorem zc_set_Worker_place (h : k < 4) (v : Int32) : zs_S 88 (wC cI cN cW ad) σ (68 + k) (.inr (2, ([.int (σ 10 k), .int (σ 11 k), .int (σ 12 k), .int (σ 13 k), .int (σ 14 k), .int (σ 15 k), .int (σ 16 k), .ref (ad (72 + k)), .int (σ 17 k), .int (σ 18 k), .int (σ 19 k), .int (σ 20 k), .int (σ 21 k), .int (σ 22 k), .int (σ 23 k), .int (σ 24 k), .int (σ 25 k), .int (σ 26 k), .ref (ad (72 + (4 + k)))] : List Value).set 0 (.int v))) (zs_u σ 10 k v) := ⟨by omega, by rw [zc_Worker h]; simp [zs_u], zc_off_Worker (by decide) v⟩
theorem zc_set_Worker_operation (h : k < 4) (v : Int32) : zs_S 88 (wC cI cN cW ad) σ (68 + k) (.inr (2, ([.int (σ 10 k), .int (σ 11 k), .int (σ 12 k), .int (σ 13 k), .int (σ 14 k), .int (σ 15 k), .int (σ 16 k), .ref (ad (72 + k)), .int (σ 17 k), .int (σ 18 k), .int (σ 19 k), .int (σ 20 k), .int (σ 21 k), .int (σ 22 k), .int (σ 23 k), .int (σ 24 k), .int (σ 25 k), .int (σ 26 k), .ref (ad (72 + (4 + k)))] : List Value).set 1 (.int v))) (zs_u σ 11 k v) := ⟨by omega, by rw [zc_Worker h]; simp [zs_u], zc_off_Worker (by decide) v⟩
theorem zc_set_Worker_key (h : k < 4) (v : Int32) : zs_S 88 (wC cI cN cW ad) σ (68 + k) (.inr (2, ([.int (σ 10 k), .int (σ 11 k), .int (σ 12 k), .int (σ 13 k), .int (σ 14 k), .int (σ 15 k), .int (σ 16 k), .ref (ad (72 + k)), .int (σ 17 k), .int (σ 18 k), .int (σ 19 k), .int (σ 20 k), .int (σ 21 k), .int (σ 22 k), .int (σ 23 k), .int (σ 24 k), .int (σ 25 k), .int (σ 26 k), .ref (ad (72 + (4 + k)))] : List Value).set 2 (.int v))) (zs_u σ 12 k v) := ⟨by omega, by rw [zc_Worker h]; simp [zs_u], zc_off_Worker (by decide) v⟩
theorem zc_set_Worker_value (h : k < 4) (v : Int32) : zs_S 88 (wC cI cN cW ad) σ (68 + k) (.inr (2, ([.int (σ 10 k), .int (σ 11 k), .int (σ 12 k), .int (σ 13 k), .int (σ 14 k), .int (σ 15 k), .int (σ 16 k), .ref (ad (72 + k)), .int (σ 17 k), .int (σ 18 k), .int (σ 19 k), .int (σ 20 k), .int (σ 21 k), .int (σ 22 k), .int (σ 23 k), .int (σ 24 k), .int (σ 25 k), .int (σ 26 k), .ref (ad (72 + (4 + k)))] : List Value).set 3 (.int v))) (zs_u σ 13 k v) := ⟨by omega, by rw [zc_Worker h]; simp [zs_u], zc_off_Worker (by decide) v⟩
theorem zc_set_Worker_low (h : k < 4) (v : Int32) : zs_S 88 (wC cI cN cW ad) σ (68 + k) (.inr (2, ([.int (σ 10 k), .int (σ 11 k), .int (σ 12 k), .int (σ 13 k), .int (σ 14 k), .int (σ 15 k), .int (σ 16 k), .ref (ad (72 + k)), .int (σ 17 k), .int (σ 18 k), .int (σ 19 k), .int (σ 20 k), .int (σ 21 k), .int (σ 22 k), .int (σ 23 k), .int (σ 24 k), .int (σ 25 k), .int (σ 26 k), .ref (ad (72 + (4 + k)))] : List Value).set 4 (.int v))) (zs_u σ 14 k v) := ⟨by omega, by rw [zc_Worker h]; simp [zs_u], zc_off_Worker (by decide) v⟩
theorem zc_set_Worker_high (h : k < 4) (v : Int32) : zs_S 88 (wC cI cN cW ad) σ (68 + k) (.inr (2, ([.int (σ 10 k), .int (σ 11 k), .int (σ 12 k), .int (σ 13 k), .int (σ 14 k), .int (σ 15 k), .int (σ 16 k), .ref (ad (72 + k)), .int (σ 17 k), .int (σ 18 k), .int (σ 19 k), .int (σ 20 k), .int (σ 21 k), .int (σ 22 k), .int (σ 23 k), .int (σ 24 k), .int (σ 25 k), .int (σ 26 k), .ref (ad (72 + (4 + k)))] : List Value).set 5 (.int v))) (zs_u σ 15 k v) := ⟨by omega, by rw [zc_Worker h]; simp [zs_u], zc_off_Worker (by decide) v⟩
theorem zc_set_Worker_bucket (h : k < 4) (v : Int32) : zs_S 88 (wC cI cN cW ad) σ (68 + k) (.inr (2, ([.int (σ 10 k), .int (σ 11 k), .int (σ 12 k), .int (σ 13 k), .int (σ 14 k), .int (σ 15 k), .int (σ 16 k), .ref (ad (72 + k)), .int (σ 17 k), .int (σ 18 k), .int (σ 19 k), .int (σ 20 k), .int (σ 21 k), .int (σ 22 k), .int (σ 23 k), .int (σ 24 k), .int (σ 25 k), .int (σ 26 k), .ref (ad (72 + (4 + k)))] : List Value).set 6 (.int v))) (zs_u σ 16 k v) := ⟨by omega, by rw [zc_Worker h]; simp [zs_u], zc_off_Worker (by decide) v⟩
theorem zc_set_Worker_start (h : k < 4) (v : Int32) : zs_S 88 (wC cI cN cW ad) σ (68 + k) (.inr (2, ([.int (σ 10 k), .int (σ 11 k), .int (σ 12 k), .int (σ 13 k), .int (σ 14 k), .int (σ 15 k), .int (σ 16 k), .ref (ad (72 + k)), .int (σ 17 k), .int (σ 18 k), .int (σ 19 k), .int (σ 20 k), .int (σ 21 k), .int (σ 22 k), .int (σ 23 k), .int (σ 24 k), .int (σ 25 k), .int (σ 26 k), .ref (ad (72 + (4 + k)))] : List Value).set 8 (.int v))) (zs_u σ 17 k v) := ⟨by omega, by rw [zc_Worker h]; simp [zs_u], zc_off_Worker (by decide) v⟩
theorem zc_set_Worker_prev (h : k < 4) (v : Int32) : zs_S 88 (wC cI cN cW ad) σ (68 + k) (.inr (2, ([.int (σ 10 k), .int (σ 11 k), .int (σ 12 k), .int (σ 13 k), .int (σ 14 k), .int (σ 15 k), .int (σ 16 k), .ref (ad (72 + k)), .int (σ 17 k), .int (σ 18 k), .int (σ 19 k), .int (σ 20 k), .int (σ 21 k), .int (σ 22 k), .int (σ 23 k), .int (σ 24 k), .int (σ 25 k), .int (σ 26 k), .ref (ad (72 + (4 + k)))] : List Value).set 9 (.int v))) (zs_u σ 18 k v) := ⟨by omega, by rw [zc_Worker h]; simp [zs_u], zc_off_Worker (by decide) v⟩
theorem zc_set_Worker_cur (h : k < 4) (v : Int32) : zs_S 88 (wC cI cN cW ad) σ (68 + k) (.inr (2, ([.int (σ 10 k), .int (σ 11 k), .int (σ 12 k), .int (σ 13 k), .int (σ 14 k), .int (σ 15 k), .int (σ 16 k), .ref (ad (72 + k)), .int (σ 17 k), .int (σ 18 k), .int (σ 19 k), .int (σ 20 k), .int (σ 21 k), .int (σ 22 k), .int (σ 23 k), .int (σ 24 k), .int (σ 25 k), .int (σ 26 k), .ref (ad (72 + (4 + k)))] : List Value).set 10 (.int v))) (zs_u σ 19 k v) := ⟨by omega, by rw [zc_Worker h]; simp [zs_u], zc_off_Worker (by decide) v⟩
theorem zc_set_Worker_nxt (h : k < 4) (v : Int32) : zs_S 88 (wC cI cN cW ad) σ (68 + k) (.inr (2, ([.int (σ 10 k), .int (σ 11 k), .int (σ 12 k), .int (σ 13 k), .int (σ 14 k), .int (σ 15 k), .int (σ 16 k), .ref (ad (72 + k)), .int (σ 17 k), .int (σ 18 k), .int (σ 19 k), .int (σ 20 k), .int (σ 21 k), .int (σ 22 k), .int (σ 23 k), .int (σ 24 k), .int (σ 25 k), .int (σ 26 k), .ref (ad (72 + (4 + k)))] : List Value).set 11 (.int v))) (zs_u σ 20 k v) := ⟨by omega, by rw [zc_Worker h]; simp [zs_u], zc_off_Worker (by decide) v⟩
theorem zc_set_Worker_curMarked (h : k < 4) (v : Int32) : zs_S 88 (wC cI cN cW ad) σ (68 + k) (.inr (2, ([.int (σ 10 k), .int (σ 11 k), .int (σ 12 k), .int (σ 13 k), .int (σ 14 k), .int (σ 15 k), .int (σ 16 k), .ref (ad (72 + k)), .int (σ 17 k), .int (σ 18 k), .int (σ 19 k), .int (σ 20 k), .int (σ 21 k), .int (σ 22 k), .int (σ 23 k), .int (σ 24 k), .int (σ 25 k), .int (σ 26 k), .ref (ad (72 + (4 + k)))] : List Value).set 12 (.int v))) (zs_u σ 21 k v) := ⟨by omega, by rw [zc_Worker h]; simp [zs_u], zc_off_Worker (by decide) v⟩
theorem zc_set_Worker_own (h : k < 4) (v : Int32) : zs_S 88 (wC cI cN cW ad) σ (68 + k) (.inr (2, ([.int (σ 10 k), .int (σ 11 k), .int (σ 12 k), .int (σ 13 k), .int (σ 14 k), .int (σ 15 k), .int (σ 16 k), .ref (ad (72 + k)), .int (σ 17 k), .int (σ 18 k), .int (σ 19 k), .int (σ 20 k), .int (σ 21 k), .int (σ 22 k), .int (σ 23 k), .int (σ 24 k), .int (σ 25 k), .int (σ 26 k), .ref (ad (72 + (4 + k)))] : List Value).set 13 (.int v))) (zs_u σ 22 k v) := ⟨by omega, by rw [zc_Worker h]; simp [zs_u], zc_off_Worker (by decide) v⟩
theorem zc_set_Worker_bucketNode (h : k < 4) (v : Int32) : zs_S 88 (wC cI cN cW ad) σ (68 + k) (.inr (2, ([.int (σ 10 k), .int (σ 11 k), .int (σ 12 k), .int (σ 13 k), .int (σ 14 k), .int (σ 15 k), .int (σ 16 k), .ref (ad (72 + k)), .int (σ 17 k), .int (σ 18 k), .int (σ 19 k), .int (σ 20 k), .int (σ 21 k), .int (σ 22 k), .int (σ 23 k), .int (σ 24 k), .int (σ 25 k), .int (σ 26 k), .ref (ad (72 + (4 + k)))] : List Value).set 14 (.int v))) (zs_u σ 23 k v) := ⟨by omega, by rw [zc_Worker h]; simp [zs_u], zc_off_Worker (by decide) v⟩
theorem zc_set_Worker_cleans (h : k < 4) (v : Int32) : zs_S 88 (wC cI cN cW ad) σ (68 + k) (.inr (2, ([.int (σ 10 k), .int (σ 11 k), .int (σ 12 k), .int (σ 13 k), .int (σ 14 k), .int (σ 15 k), .int (σ 16 k), .ref (ad (72 + k)), .int (σ 17 k), .int (σ 18 k), .int (σ 19 k), .int (σ 20 k), .int (σ 21 k), .int (σ 22 k), .int (σ 23 k), .int (σ 24 k), .int (σ 25 k), .int (σ 26 k), .ref (ad (72 + (4 + k)))] : List Value).set 15 (.int v))) (zs_u σ 24 k v) := ⟨by omega, by rw [zc_Worker h]; simp [zs_u], zc_off_Worker (by decide) v⟩
theorem zc_set_Worker_answer (h : k < 4) (v : Int32) : zs_S 88 (wC cI cN cW ad) σ (68 + k) (.inr (2, ([.int (σ 10 k), .int (σ 11 k), .int (σ 12 k), .int (σ 13 k), .int (σ 14 k), .int (σ 15 k), .int (σ 16 k), .ref (ad (72 + k)), .int (σ 17 k), .int (σ 18 k), .int (σ 19 k), .int (σ 20 k), .int (σ 21 k), .int (σ 22 k), .int (σ 23 k), .int (σ 24 k), .int (σ 25 k), .int (σ 26 k), .ref (ad (72 + (4 + k)))] : List Value).set 16 (.int v))) (zs_u σ 25 k v) := ⟨by omega, by rw [zc_Worker h]; simp [zs_u], zc_off_Worker (by decide) v⟩
theorem zc_set_Worker_latest (h : k < 4) (v : Int32) : zs_S 88 (wC cI cN cW ad) σ (68 + k) (.inr (2, ([.int (σ 10 k), .int (σ 11 k), .int (σ 12 k), .int (σ 13 k), .int (σ 14 k), .int (σ 15 k), .int (σ 16 k), .ref (ad (72 + k)), .int (σ 17 k), .int (σ 18 k), .int (σ 19 k), .int (σ 20 k), .int (σ 21 k), .int (σ 22 k), .int (σ 23 k), .int (σ 24 k), .int (σ 25 k), .int (σ 26 k), .ref (ad (72 + (4 + k)))] : List Value).set 17 (.int v))) (zs_u σ 26 k v) := ⟨by omega, by rw [zc_Worker h]; simp [zs_u], zc_off_Worker (by decide) v⟩
theorem zc_set_Num_length (h : k < 8) (v : Int32) : zs_S 88 (wC cI cN cW ad) σ (72 + k) (.inr (1, ([.ref (ad (80 + k)), .int (σ 30 k)] : List Value).set 1 (.int v))) (zs_u σ 30 k v) := ⟨by omega, by rw [zc_Num h]; simp [zs_u], zc_off_Num rfl v⟩
theorem zc_set_S_size (v : Int32) : zs_S 88 (wC cI cN cW ad) σ 0 (.inr (3, ([.ref (ad 1), .ref (ad 2), .ref (ad 3), .int (σ 32 0), .int (σ 33 0), .int (σ 34 0)] : List Value).set 3 (.int v))) (zs_u σ 32 0 v) := ⟨by decide, by rw [zc_S]; simp [zs_u], zc_off_S (by decide) v⟩
theorem zc_set_S_count (v : Int32) : zs_S 88 (wC cI cN cW ad) σ 0 (.inr (3, ([.ref (ad 1), .ref (ad 2), .ref (ad 3), .int (σ 32 0), .int (σ 33 0), .int (σ 34 0)] : List Value).set 4 (.int v))) (zs_u σ 33 0 v) := ⟨by decide, by rw [zc_S]; simp [zs_u], zc_off_S (by decide) v⟩
theorem zc_set_S_era (v : Int32) : zs_S 88 (wC cI cN cW ad) σ 0 (.inr (3, ([.ref (ad 1), .ref (ad 2), .ref (ad 3), .int (σ 32 0), .int (σ 33 0), .int (σ 34 0)] : List Value).set 5 (.int v))) (zs_u σ 34 0 v) := ⟨by decide, by rw [zc_S]; simp [zs_u], zc_off_S (by decide) v⟩
theorem zc_set_bk (j : Nat) (v : Int32) : zs_S 88 (wC cI cN cW ad) σ 3 (.inl (cI, 16, .inl (upd (σ 31) j v))) (zs_u σ 31 j v) := ⟨by decide, by rw [zc_BK]; congr 4; funext b; simp [zs_u, upd], zc_off_bk rfl v⟩
theorem zc_set_items (h : k < 8) (j : Nat) (v : Int32) : zs_S 88 (wC cI cN cW ad) σ (80 + k) (.inl (cI, zc_len k, .inl (upd (σ (40 + k)) j v))) (zs_u σ (40 + k) j v) := ⟨by omega, by rw [zc_Items h]; congr 4; funext b; simp [zs_u, upd], zc_off_items rfl h v⟩
end ZC
section ZCR
variable {p : Program} {l : Launch} {e : Env} {R : Room} {s : State} {m : MethodId} {args : Array Value} {below : List Frame} {meth : Method} {c : Code} {D : va_G} {cI cN cW : ClassId} {ad : Nat → Nat} {nL : Nat} {cc : ByteArray} {w0 : Cond} {own : String} {ov : Int32 → Option Value} {out : zs_O} {σ : zs_T} {pc index k : Nat} {lv : List (Nat × Value)} {st : List Value}
theorem gC_S_nodes (C : zs_C p s m args meth c cc nL (w0 :: zw_G) own D vwCl (tysC cI cN cW) 88 ad) (hlink : Cond.fieldLink own index (TX3 0).1 (TX3 0).2.1 (TX3 0).2.2.1 ∈ zw_G) (hdg : decode cc pc = .ok (.getfield index, 3))
    (kk : zs_Z p l e R s m args below meth c D vwCl 88 ad (wC cI cN cW ad) nL ov out σ (pc + 3) lv (.ref (ad 1) :: st)) : zs_Z p l e R s m args below meth c D vwCl 88 ad (wC cI cN cW ad) nL ov out σ pc lv (.ref (ad 0) :: st) :=
  zs_get C (fun w h => zw_in (zw_fX3 w h)) 0 (by omega) zc_S rfl 0 (by decide) (zw_in hlink) rfl hdg kk
theorem gC_S_workers (C : zs_C p s m args meth c cc nL (w0 :: zw_G) own D vwCl (tysC cI cN cW) 88 ad) (hlink : Cond.fieldLink own index (TX3 1).1 (TX3 1).2.1 (TX3 1).2.2.1 ∈ zw_G) (hdg : decode cc pc = .ok (.getfield index, 3))
    (kk : zs_Z p l e R s m args below meth c D vwCl 88 ad (wC cI cN cW ad) nL ov out σ (pc + 3) lv (.ref (ad 2) :: st)) : zs_Z p l e R s m args below meth c D vwCl 88 ad (wC cI cN cW ad) nL ov out σ pc lv (.ref (ad 0) :: st) :=
  zs_get C (fun w h => zw_in (zw_fX3 w h)) 0 (by omega) zc_S rfl 1 (by decide) (zw_in hlink) rfl hdg kk
theorem gC_S_bucketNodes (C : zs_C p s m args meth c cc nL (w0 :: zw_G) own D vwCl (tysC cI cN cW) 88 ad) (hlink : Cond.fieldLink own index (TX3 2).1 (TX3 2).2.1 (TX3 2).2.2.1 ∈ zw_G) (hdg : decode cc pc = .ok (.getfield index, 3))
    (kk : zs_Z p l e R s m args below meth c D vwCl 88 ad (wC cI cN cW ad) nL ov out σ (pc + 3) lv (.ref (ad 3) :: st)) : zs_Z p l e R s m args below meth c D vwCl 88 ad (wC cI cN cW ad) nL ov out σ pc lv (.ref (ad 0) :: st) :=
  zs_get C (fun w h => zw_in (zw_fX3 w h)) 0 (by omega) zc_S rfl 2 (by decide) (zw_in hlink) rfl hdg kk
theorem gC_S_size (C : zs_C p s m args meth c cc nL (w0 :: zw_G) own D vwCl (tysC cI cN cW) 88 ad) (hlink : Cond.fieldLink own index (TX3 3).1 (TX3 3).2.1 (TX3 3).2.2.1 ∈ zw_G) (hdg : decode cc pc = .ok (.getfield index, 3))
    (kk : zs_Z p l e R s m args below meth c D vwCl 88 ad (wC cI cN cW ad) nL ov out σ (pc + 3) lv (.int (σ 32 0) :: st)) : zs_Z p l e R s m args below meth c D vwCl 88 ad (wC cI cN cW ad) nL ov out σ pc lv (.ref (ad 0) :: st) :=
  zs_get C (fun w h => zw_in (zw_fX3 w h)) 0 (by omega) zc_S rfl 3 (by decide) (zw_in hlink) rfl hdg kk
theorem pC_S_size (C : zs_C p s m args meth c cc nL (w0 :: zw_G) own D vwCl (tysC cI cN cW) 88 ad) {v : Int32} (hlink : Cond.fieldLink own index (TX3 3).1 (TX3 3).2.1 (TX3 3).2.2.1 ∈ zw_G) (hdg : decode cc pc = .ok (.putfield index, 3))
    (kk : zs_Z p l e R s m args below meth c D vwCl 88 ad (wC cI cN cW ad) nL ov out (zs_u σ 32 0 v) (pc + 3) lv (st)) : zs_Z p l e R s m args below meth c D vwCl 88 ad (wC cI cN cW ad) nL ov out σ pc lv (.int v :: .ref (ad 0) :: st) :=
  zs_put (ty := .int) C (fun w h => zw_in (zw_fX3 w h)) tyX3 tyX3_ok nmX3 0 zc_S rfl 3 (by decide) (zw_in hlink) rfl (by decide +kernel) rfl rfl (Nat.le_of_ble_eq_true rfl) (zc_set_S_size v) hdg kk
theorem gC_S_count (C : zs_C p s m args meth c cc nL (w0 :: zw_G) own D vwCl (tysC cI cN cW) 88 ad) (hlink : Cond.fieldLink own index (TX3 4).1 (TX3 4).2.1 (TX3 4).2.2.1 ∈ zw_G) (hdg : decode cc pc = .ok (.getfield index, 3))
    (kk : zs_Z p l e R s m args below meth c D vwCl 88 ad (wC cI cN cW ad) nL ov out σ (pc + 3) lv (.int (σ 33 0) :: st)) : zs_Z p l e R s m args below meth c D vwCl 88 ad (wC cI cN cW ad) nL ov out σ pc lv (.ref (ad 0) :: st) :=
  zs_get C (fun w h => zw_in (zw_fX3 w h)) 0 (by omega) zc_S rfl 4 (by decide) (zw_in hlink) rfl hdg kk
theorem pC_S_count (C : zs_C p s m args meth c cc nL (w0 :: zw_G) own D vwCl (tysC cI cN cW) 88 ad) {v : Int32} (hlink : Cond.fieldLink own index (TX3 4).1 (TX3 4).2.1 (TX3 4).2.2.1 ∈ zw_G) (hdg : decode cc pc = .ok (.putfield index, 3))
    (kk : zs_Z p l e R s m args below meth c D vwCl 88 ad (wC cI cN cW ad) nL ov out (zs_u σ 33 0 v) (pc + 3) lv (st)) : zs_Z p l e R s m args below meth c D vwCl 88 ad (wC cI cN cW ad) nL ov out σ pc lv (.int v :: .ref (ad 0) :: st) :=
  zs_put (ty := .int) C (fun w h => zw_in (zw_fX3 w h)) tyX3 tyX3_ok nmX3 0 zc_S rfl 4 (by decide) (zw_in hlink) rfl (by decide +kernel) rfl rfl (Nat.le_of_ble_eq_true rfl) (zc_set_S_count v) hdg kk
theorem gC_S_era (C : zs_C p s m args meth c cc nL (w0 :: zw_G) own D vwCl (tysC cI cN cW) 88 ad) (hlink : Cond.fieldLink own index (TX3 5).1 (TX3 5).2.1 (TX3 5).2.2.1 ∈ zw_G) (hdg : decode cc pc = .ok (.getfield index, 3))
    (kk : zs_Z p l e R s m args below meth c D vwCl 88 ad (wC cI cN cW ad) nL ov out σ (pc + 3) lv (.int (σ 34 0) :: st)) : zs_Z p l e R s m args below meth c D vwCl 88 ad (wC cI cN cW ad) nL ov out σ pc lv (.ref (ad 0) :: st) :=
  zs_get C (fun w h => zw_in (zw_fX3 w h)) 0 (by omega) zc_S rfl 5 (by decide) (zw_in hlink) rfl hdg kk
theorem pC_S_era (C : zs_C p s m args meth c cc nL (w0 :: zw_G) own D vwCl (tysC cI cN cW) 88 ad) {v : Int32} (hlink : Cond.fieldLink own index (TX3 5).1 (TX3 5).2.1 (TX3 5).2.2.1 ∈ zw_G) (hdg : decode cc pc = .ok (.putfield index, 3))
    (kk : zs_Z p l e R s m args below meth c D vwCl 88 ad (wC cI cN cW ad) nL ov out (zs_u σ 34 0 v) (pc + 3) lv (st)) : zs_Z p l e R s m args below meth c D vwCl 88 ad (wC cI cN cW ad) nL ov out σ pc lv (.int v :: .ref (ad 0) :: st) :=
  zs_put (ty := .int) C (fun w h => zw_in (zw_fX3 w h)) tyX3 tyX3_ok nmX3 0 zc_S rfl 5 (by decide) (zw_in hlink) rfl (by decide +kernel) rfl rfl (Nat.le_of_ble_eq_true rfl) (zc_set_S_era v) hdg kk
theorem gC_Node_state (C : zs_C p s m args meth c cc nL (w0 :: zw_G) own D vwCl (tysC cI cN cW) 88 ad) (hk : k < 64) (hlink : Cond.fieldLink own index (TX0 0).1 (TX0 0).2.1 (TX0 0).2.2.1 ∈ zw_G) (hdg : decode cc pc = .ok (.getfield index, 3))
    (kk : zs_Z p l e R s m args below meth c D vwCl 88 ad (wC cI cN cW ad) nL ov out σ (pc + 3) lv (.int (σ 0 k) :: st)) : zs_Z p l e R s m args below meth c D vwCl 88 ad (wC cI cN cW ad) nL ov out σ pc lv (.ref (ad (4 + k)) :: st) :=
  zs_get C (fun w h => zw_in (zw_fX0 w h)) (4 + k) (by omega) (zc_Node hk) rfl 0 (by decide) (zw_in hlink) rfl hdg kk
theorem pC_Node_state (C : zs_C p s m args meth c cc nL (w0 :: zw_G) own D vwCl (tysC cI cN cW) 88 ad) {v : Int32} (hk : k < 64) (hlink : Cond.fieldLink own index (TX0 0).1 (TX0 0).2.1 (TX0 0).2.2.1 ∈ zw_G) (hdg : decode cc pc = .ok (.putfield index, 3))
    (kk : zs_Z p l e R s m args below meth c D vwCl 88 ad (wC cI cN cW ad) nL ov out (zs_u σ 0 k v) (pc + 3) lv (st)) : zs_Z p l e R s m args below meth c D vwCl 88 ad (wC cI cN cW ad) nL ov out σ pc lv (.int v :: .ref (ad (4 + k)) :: st) :=
  zs_put (ty := .int) C (fun w h => zw_in (zw_fX0 w h)) tyX0 tyX0_ok nmX0 (4 + k) (zc_Node hk) rfl 0 (by decide) (zw_in hlink) rfl (by decide +kernel) rfl rfl (Nat.le_of_ble_eq_true rfl) (zc_set_Node_state hk v) hdg kk
theorem gC_Node_order (C : zs_C p s m args meth c cc nL (w0 :: zw_G) own D vwCl (tysC cI cN cW) 88 ad) (hk : k < 64) (hlink : Cond.fieldLink own index (TX0 1).1 (TX0 1).2.1 (TX0 1).2.2.1 ∈ zw_G) (hdg : decode cc pc = .ok (.getfield index, 3))
    (kk : zs_Z p l e R s m args below meth c D vwCl 88 ad (wC cI cN cW ad) nL ov out σ (pc + 3) lv (.int (σ 1 k) :: st)) : zs_Z p l e R s m args below meth c D vwCl 88 ad (wC cI cN cW ad) nL ov out σ pc lv (.ref (ad (4 + k)) :: st) :=
  zs_get C (fun w h => zw_in (zw_fX0 w h)) (4 + k) (by omega) (zc_Node hk) rfl 1 (by decide) (zw_in hlink) rfl hdg kk
theorem pC_Node_order (C : zs_C p s m args meth c cc nL (w0 :: zw_G) own D vwCl (tysC cI cN cW) 88 ad) {v : Int32} (hk : k < 64) (hlink : Cond.fieldLink own index (TX0 1).1 (TX0 1).2.1 (TX0 1).2.2.1 ∈ zw_G) (hdg : decode cc pc = .ok (.putfield index, 3))
    (kk : zs_Z p l e R s m args below meth c D vwCl 88 ad (wC cI cN cW ad) nL ov out (zs_u σ 1 k v) (pc + 3) lv (st)) : zs_Z p l e R s m args below meth c D vwCl 88 ad (wC cI cN cW ad) nL ov out σ pc lv (.int v :: .ref (ad (4 + k)) :: st) :=
  zs_put (ty := .int) C (fun w h => zw_in (zw_fX0 w h)) tyX0 tyX0_ok nmX0 (4 + k) (zc_Node hk) rfl 1 (by decide) (zw_in hlink) rfl (by decide +kernel) rfl rfl (Nat.le_of_ble_eq_true rfl) (zc_set_Node_order hk v) hdg kk
theorem gC_Node_next (C : zs_C p s m args meth c cc nL (w0 :: zw_G) own D vwCl (tysC cI cN cW) 88 ad) (hk : k < 64) (hlink : Cond.fieldLink own index (TX0 2).1 (TX0 2).2.1 (TX0 2).2.2.1 ∈ zw_G) (hdg : decode cc pc = .ok (.getfield index, 3))
    (kk : zs_Z p l e R s m args below meth c D vwCl 88 ad (wC cI cN cW ad) nL ov out σ (pc + 3) lv (.int (σ 2 k) :: st)) : zs_Z p l e R s m args below meth c D vwCl 88 ad (wC cI cN cW ad) nL ov out σ pc lv (.ref (ad (4 + k)) :: st) :=
  zs_get C (fun w h => zw_in (zw_fX0 w h)) (4 + k) (by omega) (zc_Node hk) rfl 2 (by decide) (zw_in hlink) rfl hdg kk
theorem pC_Node_next (C : zs_C p s m args meth c cc nL (w0 :: zw_G) own D vwCl (tysC cI cN cW) 88 ad) {v : Int32} (hk : k < 64) (hlink : Cond.fieldLink own index (TX0 2).1 (TX0 2).2.1 (TX0 2).2.2.1 ∈ zw_G) (hdg : decode cc pc = .ok (.putfield index, 3))
    (kk : zs_Z p l e R s m args below meth c D vwCl 88 ad (wC cI cN cW ad) nL ov out (zs_u σ 2 k v) (pc + 3) lv (st)) : zs_Z p l e R s m args below meth c D vwCl 88 ad (wC cI cN cW ad) nL ov out σ pc lv (.int v :: .ref (ad (4 + k)) :: st) :=
  zs_put (ty := .int) C (fun w h => zw_in (zw_fX0 w h)) tyX0 tyX0_ok nmX0 (4 + k) (zc_Node hk) rfl 2 (by decide) (zw_in hlink) rfl (by decide +kernel) rfl rfl (Nat.le_of_ble_eq_true rfl) (zc_set_Node_next hk v) hdg kk
theorem gC_Node_marked (C : zs_C p s m args meth c cc nL (w0 :: zw_G) own D vwCl (tysC cI cN cW) 88 ad) (hk : k < 64) (hlink : Cond.fieldLink own index (TX0 3).1 (TX0 3).2.1 (TX0 3).2.2.1 ∈ zw_G) (hdg : decode cc pc = .ok (.getfield index, 3))
    (kk : zs_Z p l e R s m args below meth c D vwCl 88 ad (wC cI cN cW ad) nL ov out σ (pc + 3) lv (.int (σ 3 k) :: st)) : zs_Z p l e R s m args below meth c D vwCl 88 ad (wC cI cN cW ad) nL ov out σ pc lv (.ref (ad (4 + k)) :: st) :=
  zs_get C (fun w h => zw_in (zw_fX0 w h)) (4 + k) (by omega) (zc_Node hk) rfl 3 (by decide) (zw_in hlink) rfl hdg kk
theorem pC_Node_marked (C : zs_C p s m args meth c cc nL (w0 :: zw_G) own D vwCl (tysC cI cN cW) 88 ad) {v : Int32} (hk : k < 64) (hlink : Cond.fieldLink own index (TX0 3).1 (TX0 3).2.1 (TX0 3).2.2.1 ∈ zw_G) (hz : zs_B v) (hdg : decode cc pc = .ok (.putfield index, 3))
    (kk : zs_Z p l e R s m args below meth c D vwCl 88 ad (wC cI cN cW ad) nL ov out (zs_u σ 3 k v) (pc + 3) lv (st)) : zs_Z p l e R s m args below meth c D vwCl 88 ad (wC cI cN cW ad) nL ov out σ pc lv (.int v :: .ref (ad (4 + k)) :: st) :=
  zs_put (ty := .boolean) C (fun w h => zw_in (zw_fX0 w h)) tyX0 tyX0_ok nmX0 (4 + k) (zc_Node hk) rfl 3 (by decide) (zw_in hlink) rfl (by decide +kernel) (zs_nz hz) (zs_fz hz) (Nat.le_of_ble_eq_true rfl) (zc_set_Node_marked hk v) hdg kk
theorem gC_Node_key (C : zs_C p s m args meth c cc nL (w0 :: zw_G) own D vwCl (tysC cI cN cW) 88 ad) (hk : k < 64) (hlink : Cond.fieldLink own index (TX0 4).1 (TX0 4).2.1 (TX0 4).2.2.1 ∈ zw_G) (hdg : decode cc pc = .ok (.getfield index, 3))
    (kk : zs_Z p l e R s m args below meth c D vwCl 88 ad (wC cI cN cW ad) nL ov out σ (pc + 3) lv (.int (σ 4 k) :: st)) : zs_Z p l e R s m args below meth c D vwCl 88 ad (wC cI cN cW ad) nL ov out σ pc lv (.ref (ad (4 + k)) :: st) :=
  zs_get C (fun w h => zw_in (zw_fX0 w h)) (4 + k) (by omega) (zc_Node hk) rfl 4 (by decide) (zw_in hlink) rfl hdg kk
theorem pC_Node_key (C : zs_C p s m args meth c cc nL (w0 :: zw_G) own D vwCl (tysC cI cN cW) 88 ad) {v : Int32} (hk : k < 64) (hlink : Cond.fieldLink own index (TX0 4).1 (TX0 4).2.1 (TX0 4).2.2.1 ∈ zw_G) (hdg : decode cc pc = .ok (.putfield index, 3))
    (kk : zs_Z p l e R s m args below meth c D vwCl 88 ad (wC cI cN cW ad) nL ov out (zs_u σ 4 k v) (pc + 3) lv (st)) : zs_Z p l e R s m args below meth c D vwCl 88 ad (wC cI cN cW ad) nL ov out σ pc lv (.int v :: .ref (ad (4 + k)) :: st) :=
  zs_put (ty := .int) C (fun w h => zw_in (zw_fX0 w h)) tyX0 tyX0_ok nmX0 (4 + k) (zc_Node hk) rfl 4 (by decide) (zw_in hlink) rfl (by decide +kernel) rfl rfl (Nat.le_of_ble_eq_true rfl) (zc_set_Node_key hk v) hdg kk
theorem gC_Node_value (C : zs_C p s m args meth c cc nL (w0 :: zw_G) own D vwCl (tysC cI cN cW) 88 ad) (hk : k < 64) (hlink : Cond.fieldLink own index (TX0 5).1 (TX0 5).2.1 (TX0 5).2.2.1 ∈ zw_G) (hdg : decode cc pc = .ok (.getfield index, 3))
    (kk : zs_Z p l e R s m args below meth c D vwCl 88 ad (wC cI cN cW ad) nL ov out σ (pc + 3) lv (.int (σ 5 k) :: st)) : zs_Z p l e R s m args below meth c D vwCl 88 ad (wC cI cN cW ad) nL ov out σ pc lv (.ref (ad (4 + k)) :: st) :=
  zs_get C (fun w h => zw_in (zw_fX0 w h)) (4 + k) (by omega) (zc_Node hk) rfl 5 (by decide) (zw_in hlink) rfl hdg kk
theorem pC_Node_value (C : zs_C p s m args meth c cc nL (w0 :: zw_G) own D vwCl (tysC cI cN cW) 88 ad) {v : Int32} (hk : k < 64) (hlink : Cond.fieldLink own index (TX0 5).1 (TX0 5).2.1 (TX0 5).2.2.1 ∈ zw_G) (hdg : decode cc pc = .ok (.putfield index, 3))
    (kk : zs_Z p l e R s m args below meth c D vwCl 88 ad (wC cI cN cW ad) nL ov out (zs_u σ 5 k v) (pc + 3) lv (st)) : zs_Z p l e R s m args below meth c D vwCl 88 ad (wC cI cN cW ad) nL ov out σ pc lv (.int v :: .ref (ad (4 + k)) :: st) :=
  zs_put (ty := .int) C (fun w h => zw_in (zw_fX0 w h)) tyX0 tyX0_ok nmX0 (4 + k) (zc_Node hk) rfl 5 (by decide) (zw_in hlink) rfl (by decide +kernel) rfl rfl (Nat.le_of_ble_eq_true rfl) (zc_set_Node_value hk v) hdg kk
theorem gC_Node_born (C : zs_C p s m args meth c cc nL (w0 :: zw_G) own D vwCl (tysC cI cN cW) 88 ad) (hk : k < 64) (hlink : Cond.fieldLink own index (TX0 6).1 (TX0 6).2.1 (TX0 6).2.2.1 ∈ zw_G) (hdg : decode cc pc = .ok (.getfield index, 3))
    (kk : zs_Z p l e R s m args below meth c D vwCl 88 ad (wC cI cN cW ad) nL ov out σ (pc + 3) lv (.int (σ 6 k) :: st)) : zs_Z p l e R s m args below meth c D vwCl 88 ad (wC cI cN cW ad) nL ov out σ pc lv (.ref (ad (4 + k)) :: st) :=
  zs_get C (fun w h => zw_in (zw_fX0 w h)) (4 + k) (by omega) (zc_Node hk) rfl 6 (by decide) (zw_in hlink) rfl hdg kk
theorem pC_Node_born (C : zs_C p s m args meth c cc nL (w0 :: zw_G) own D vwCl (tysC cI cN cW) 88 ad) {v : Int32} (hk : k < 64) (hlink : Cond.fieldLink own index (TX0 6).1 (TX0 6).2.1 (TX0 6).2.2.1 ∈ zw_G) (hdg : decode cc pc = .ok (.putfield index, 3))
    (kk : zs_Z p l e R s m args below meth c D vwCl 88 ad (wC cI cN cW ad) nL ov out (zs_u σ 6 k v) (pc + 3) lv (st)) : zs_Z p l e R s m args below meth c D vwCl 88 ad (wC cI cN cW ad) nL ov out σ pc lv (.int v :: .ref (ad (4 + k)) :: st) :=
  zs_put (ty := .int) C (fun w h => zw_in (zw_fX0 w h)) tyX0 tyX0_ok nmX0 (4 + k) (zc_Node hk) rfl 6 (by decide) (zw_in hlink) rfl (by decide +kernel) rfl rfl (Nat.le_of_ble_eq_true rfl) (zc_set_Node_born hk v) hdg kk
theorem gC_Node_died (C : zs_C p s m args meth c cc nL (w0 :: zw_G) own D vwCl (tysC cI cN cW) 88 ad) (hk : k < 64) (hlink : Cond.fieldLink own index (TX0 7).1 (TX0 7).2.1 (TX0 7).2.2.1 ∈ zw_G) (hdg : decode cc pc = .ok (.getfield index, 3))
    (kk : zs_Z p l e R s m args below meth c D vwCl 88 ad (wC cI cN cW ad) nL ov out σ (pc + 3) lv (.int (σ 7 k) :: st)) : zs_Z p l e R s m args below meth c D vwCl 88 ad (wC cI cN cW ad) nL ov out σ pc lv (.ref (ad (4 + k)) :: st) :=
  zs_get C (fun w h => zw_in (zw_fX0 w h)) (4 + k) (by omega) (zc_Node hk) rfl 7 (by decide) (zw_in hlink) rfl hdg kk
theorem pC_Node_died (C : zs_C p s m args meth c cc nL (w0 :: zw_G) own D vwCl (tysC cI cN cW) 88 ad) {v : Int32} (hk : k < 64) (hlink : Cond.fieldLink own index (TX0 7).1 (TX0 7).2.1 (TX0 7).2.2.1 ∈ zw_G) (hdg : decode cc pc = .ok (.putfield index, 3))
    (kk : zs_Z p l e R s m args below meth c D vwCl 88 ad (wC cI cN cW ad) nL ov out (zs_u σ 7 k v) (pc + 3) lv (st)) : zs_Z p l e R s m args below meth c D vwCl 88 ad (wC cI cN cW ad) nL ov out σ pc lv (.int v :: .ref (ad (4 + k)) :: st) :=
  zs_put (ty := .int) C (fun w h => zw_in (zw_fX0 w h)) tyX0 tyX0_ok nmX0 (4 + k) (zc_Node hk) rfl 7 (by decide) (zw_in hlink) rfl (by decide +kernel) rfl rfl (Nat.le_of_ble_eq_true rfl) (zc_set_Node_died hk v) hdg kk
theorem gC_Worker_place (C : zs_C p s m args meth c cc nL (w0 :: zw_G) own D vwCl (tysC cI cN cW) 88 ad) (hk : k < 4) (hlink : Cond.fieldLink own index (TX2 0).1 (TX2 0).2.1 (TX2 0).2.2.1 ∈ zw_G) (hdg : decode cc pc = .ok (.getfield index, 3))
    (kk : zs_Z p l e R s m args below meth c D vwCl 88 ad (wC cI cN cW ad) nL ov out σ (pc + 3) lv (.int (σ 10 k) :: st)) : zs_Z p l e R s m args below meth c D vwCl 88 ad (wC cI cN cW ad) nL ov out σ pc lv (.ref (ad (68 + k)) :: st) :=
  zs_get C (fun w h => zw_in (zw_fX2 w h)) (68 + k) (by omega) (zc_Worker hk) rfl 0 (by decide) (zw_in hlink) rfl hdg kk
theorem pC_Worker_place (C : zs_C p s m args meth c cc nL (w0 :: zw_G) own D vwCl (tysC cI cN cW) 88 ad) {v : Int32} (hk : k < 4) (hlink : Cond.fieldLink own index (TX2 0).1 (TX2 0).2.1 (TX2 0).2.2.1 ∈ zw_G) (hdg : decode cc pc = .ok (.putfield index, 3))
    (kk : zs_Z p l e R s m args below meth c D vwCl 88 ad (wC cI cN cW ad) nL ov out (zs_u σ 10 k v) (pc + 3) lv (st)) : zs_Z p l e R s m args below meth c D vwCl 88 ad (wC cI cN cW ad) nL ov out σ pc lv (.int v :: .ref (ad (68 + k)) :: st) :=
  zs_put (ty := .int) C (fun w h => zw_in (zw_fX2 w h)) tyX2 tyX2_ok nmX2 (68 + k) (zc_Worker hk) rfl 0 (by decide) (zw_in hlink) rfl (by decide +kernel) rfl rfl (Nat.le_of_ble_eq_true rfl) (zc_set_Worker_place hk v) hdg kk
theorem gC_Worker_operation (C : zs_C p s m args meth c cc nL (w0 :: zw_G) own D vwCl (tysC cI cN cW) 88 ad) (hk : k < 4) (hlink : Cond.fieldLink own index (TX2 1).1 (TX2 1).2.1 (TX2 1).2.2.1 ∈ zw_G) (hdg : decode cc pc = .ok (.getfield index, 3))
    (kk : zs_Z p l e R s m args below meth c D vwCl 88 ad (wC cI cN cW ad) nL ov out σ (pc + 3) lv (.int (σ 11 k) :: st)) : zs_Z p l e R s m args below meth c D vwCl 88 ad (wC cI cN cW ad) nL ov out σ pc lv (.ref (ad (68 + k)) :: st) :=
  zs_get C (fun w h => zw_in (zw_fX2 w h)) (68 + k) (by omega) (zc_Worker hk) rfl 1 (by decide) (zw_in hlink) rfl hdg kk
theorem pC_Worker_operation (C : zs_C p s m args meth c cc nL (w0 :: zw_G) own D vwCl (tysC cI cN cW) 88 ad) {v : Int32} (hk : k < 4) (hlink : Cond.fieldLink own index (TX2 1).1 (TX2 1).2.1 (TX2 1).2.2.1 ∈ zw_G) (hdg : decode cc pc = .ok (.putfield index, 3))
    (kk : zs_Z p l e R s m args below meth c D vwCl 88 ad (wC cI cN cW ad) nL ov out (zs_u σ 11 k v) (pc + 3) lv (st)) : zs_Z p l e R s m args below meth c D vwCl 88 ad (wC cI cN cW ad) nL ov out σ pc lv (.int v :: .ref (ad (68 + k)) :: st) :=
  zs_put (ty := .int) C (fun w h => zw_in (zw_fX2 w h)) tyX2 tyX2_ok nmX2 (68 + k) (zc_Worker hk) rfl 1 (by decide) (zw_in hlink) rfl (by decide +kernel) rfl rfl (Nat.le_of_ble_eq_true rfl) (zc_set_Worker_operation hk v) hdg kk
theorem gC_Worker_key (C : zs_C p s m args meth c cc nL (w0 :: zw_G) own D vwCl (tysC cI cN cW) 88 ad) (hk : k < 4) (hlink : Cond.fieldLink own index (TX2 2).1 (TX2 2).2.1 (TX2 2).2.2.1 ∈ zw_G) (hdg : decode cc pc = .ok (.getfield index, 3))
    (kk : zs_Z p l e R s m args below meth c D vwCl 88 ad (wC cI cN cW ad) nL ov out σ (pc + 3) lv (.int (σ 12 k) :: st)) : zs_Z p l e R s m args below meth c D vwCl 88 ad (wC cI cN cW ad) nL ov out σ pc lv (.ref (ad (68 + k)) :: st) :=
  zs_get C (fun w h => zw_in (zw_fX2 w h)) (68 + k) (by omega) (zc_Worker hk) rfl 2 (by decide) (zw_in hlink) rfl hdg kk
theorem pC_Worker_key (C : zs_C p s m args meth c cc nL (w0 :: zw_G) own D vwCl (tysC cI cN cW) 88 ad) {v : Int32} (hk : k < 4) (hlink : Cond.fieldLink own index (TX2 2).1 (TX2 2).2.1 (TX2 2).2.2.1 ∈ zw_G) (hdg : decode cc pc = .ok (.putfield index, 3))
    (kk : zs_Z p l e R s m args below meth c D vwCl 88 ad (wC cI cN cW ad) nL ov out (zs_u σ 12 k v) (pc + 3) lv (st)) : zs_Z p l e R s m args below meth c D vwCl 88 ad (wC cI cN cW ad) nL ov out σ pc lv (.int v :: .ref (ad (68 + k)) :: st) :=
  zs_put (ty := .int) C (fun w h => zw_in (zw_fX2 w h)) tyX2 tyX2_ok nmX2 (68 + k) (zc_Worker hk) rfl 2 (by decide) (zw_in hlink) rfl (by decide +kernel) rfl rfl (Nat.le_of_ble_eq_true rfl) (zc_set_Worker_key hk v) hdg kk
theorem gC_Worker_value (C : zs_C p s m args meth c cc nL (w0 :: zw_G) own D vwCl (tysC cI cN cW) 88 ad) (hk : k < 4) (hlink : Cond.fieldLink own index (TX2 3).1 (TX2 3).2.1 (TX2 3).2.2.1 ∈ zw_G) (hdg : decode cc pc = .ok (.getfield index, 3))
    (kk : zs_Z p l e R s m args below meth c D vwCl 88 ad (wC cI cN cW ad) nL ov out σ (pc + 3) lv (.int (σ 13 k) :: st)) : zs_Z p l e R s m args below meth c D vwCl 88 ad (wC cI cN cW ad) nL ov out σ pc lv (.ref (ad (68 + k)) :: st) :=
  zs_get C (fun w h => zw_in (zw_fX2 w h)) (68 + k) (by omega) (zc_Worker hk) rfl 3 (by decide) (zw_in hlink) rfl hdg kk
theorem pC_Worker_value (C : zs_C p s m args meth c cc nL (w0 :: zw_G) own D vwCl (tysC cI cN cW) 88 ad) {v : Int32} (hk : k < 4) (hlink : Cond.fieldLink own index (TX2 3).1 (TX2 3).2.1 (TX2 3).2.2.1 ∈ zw_G) (hdg : decode cc pc = .ok (.putfield index, 3))
    (kk : zs_Z p l e R s m args below meth c D vwCl 88 ad (wC cI cN cW ad) nL ov out (zs_u σ 13 k v) (pc + 3) lv (st)) : zs_Z p l e R s m args below meth c D vwCl 88 ad (wC cI cN cW ad) nL ov out σ pc lv (.int v :: .ref (ad (68 + k)) :: st) :=
  zs_put (ty := .int) C (fun w h => zw_in (zw_fX2 w h)) tyX2 tyX2_ok nmX2 (68 + k) (zc_Worker hk) rfl 3 (by decide) (zw_in hlink) rfl (by decide +kernel) rfl rfl (Nat.le_of_ble_eq_true rfl) (zc_set_Worker_value hk v) hdg kk
theorem gC_Worker_low (C : zs_C p s m args meth c cc nL (w0 :: zw_G) own D vwCl (tysC cI cN cW) 88 ad) (hk : k < 4) (hlink : Cond.fieldLink own index (TX2 4).1 (TX2 4).2.1 (TX2 4).2.2.1 ∈ zw_G) (hdg : decode cc pc = .ok (.getfield index, 3))
    (kk : zs_Z p l e R s m args below meth c D vwCl 88 ad (wC cI cN cW ad) nL ov out σ (pc + 3) lv (.int (σ 14 k) :: st)) : zs_Z p l e R s m args below meth c D vwCl 88 ad (wC cI cN cW ad) nL ov out σ pc lv (.ref (ad (68 + k)) :: st) :=
  zs_get C (fun w h => zw_in (zw_fX2 w h)) (68 + k) (by omega) (zc_Worker hk) rfl 4 (by decide) (zw_in hlink) rfl hdg kk
theorem pC_Worker_low (C : zs_C p s m args meth c cc nL (w0 :: zw_G) own D vwCl (tysC cI cN cW) 88 ad) {v : Int32} (hk : k < 4) (hlink : Cond.fieldLink own index (TX2 4).1 (TX2 4).2.1 (TX2 4).2.2.1 ∈ zw_G) (hdg : decode cc pc = .ok (.putfield index, 3))
    (kk : zs_Z p l e R s m args below meth c D vwCl 88 ad (wC cI cN cW ad) nL ov out (zs_u σ 14 k v) (pc + 3) lv (st)) : zs_Z p l e R s m args below meth c D vwCl 88 ad (wC cI cN cW ad) nL ov out σ pc lv (.int v :: .ref (ad (68 + k)) :: st) :=
  zs_put (ty := .int) C (fun w h => zw_in (zw_fX2 w h)) tyX2 tyX2_ok nmX2 (68 + k) (zc_Worker hk) rfl 4 (by decide) (zw_in hlink) rfl (by decide +kernel) rfl rfl (Nat.le_of_ble_eq_true rfl) (zc_set_Worker_low hk v) hdg kk
theorem gC_Worker_high (C : zs_C p s m args meth c cc nL (w0 :: zw_G) own D vwCl (tysC cI cN cW) 88 ad) (hk : k < 4) (hlink : Cond.fieldLink own index (TX2 5).1 (TX2 5).2.1 (TX2 5).2.2.1 ∈ zw_G) (hdg : decode cc pc = .ok (.getfield index, 3))
    (kk : zs_Z p l e R s m args below meth c D vwCl 88 ad (wC cI cN cW ad) nL ov out σ (pc + 3) lv (.int (σ 15 k) :: st)) : zs_Z p l e R s m args below meth c D vwCl 88 ad (wC cI cN cW ad) nL ov out σ pc lv (.ref (ad (68 + k)) :: st) :=
  zs_get C (fun w h => zw_in (zw_fX2 w h)) (68 + k) (by omega) (zc_Worker hk) rfl 5 (by decide) (zw_in hlink) rfl hdg kk
theorem pC_Worker_high (C : zs_C p s m args meth c cc nL (w0 :: zw_G) own D vwCl (tysC cI cN cW) 88 ad) {v : Int32} (hk : k < 4) (hlink : Cond.fieldLink own index (TX2 5).1 (TX2 5).2.1 (TX2 5).2.2.1 ∈ zw_G) (hdg : decode cc pc = .ok (.putfield index, 3))
    (kk : zs_Z p l e R s m args below meth c D vwCl 88 ad (wC cI cN cW ad) nL ov out (zs_u σ 15 k v) (pc + 3) lv (st)) : zs_Z p l e R s m args below meth c D vwCl 88 ad (wC cI cN cW ad) nL ov out σ pc lv (.int v :: .ref (ad (68 + k)) :: st) :=
  zs_put (ty := .int) C (fun w h => zw_in (zw_fX2 w h)) tyX2 tyX2_ok nmX2 (68 + k) (zc_Worker hk) rfl 5 (by decide) (zw_in hlink) rfl (by decide +kernel) rfl rfl (Nat.le_of_ble_eq_true rfl) (zc_set_Worker_high hk v) hdg kk
theorem gC_Worker_bucket (C : zs_C p s m args meth c cc nL (w0 :: zw_G) own D vwCl (tysC cI cN cW) 88 ad) (hk : k < 4) (hlink : Cond.fieldLink own index (TX2 6).1 (TX2 6).2.1 (TX2 6).2.2.1 ∈ zw_G) (hdg : decode cc pc = .ok (.getfield index, 3))
    (kk : zs_Z p l e R s m args below meth c D vwCl 88 ad (wC cI cN cW ad) nL ov out σ (pc + 3) lv (.int (σ 16 k) :: st)) : zs_Z p l e R s m args below meth c D vwCl 88 ad (wC cI cN cW ad) nL ov out σ pc lv (.ref (ad (68 + k)) :: st) :=
  zs_get C (fun w h => zw_in (zw_fX2 w h)) (68 + k) (by omega) (zc_Worker hk) rfl 6 (by decide) (zw_in hlink) rfl hdg kk
theorem pC_Worker_bucket (C : zs_C p s m args meth c cc nL (w0 :: zw_G) own D vwCl (tysC cI cN cW) 88 ad) {v : Int32} (hk : k < 4) (hlink : Cond.fieldLink own index (TX2 6).1 (TX2 6).2.1 (TX2 6).2.2.1 ∈ zw_G) (hdg : decode cc pc = .ok (.putfield index, 3))
    (kk : zs_Z p l e R s m args below meth c D vwCl 88 ad (wC cI cN cW ad) nL ov out (zs_u σ 16 k v) (pc + 3) lv (st)) : zs_Z p l e R s m args below meth c D vwCl 88 ad (wC cI cN cW ad) nL ov out σ pc lv (.int v :: .ref (ad (68 + k)) :: st) :=
  zs_put (ty := .int) C (fun w h => zw_in (zw_fX2 w h)) tyX2 tyX2_ok nmX2 (68 + k) (zc_Worker hk) rfl 6 (by decide) (zw_in hlink) rfl (by decide +kernel) rfl rfl (Nat.le_of_ble_eq_true rfl) (zc_set_Worker_bucket hk v) hdg kk
theorem gC_Worker_stack (C : zs_C p s m args meth c cc nL (w0 :: zw_G) own D vwCl (tysC cI cN cW) 88 ad) (hk : k < 4) (hlink : Cond.fieldLink own index (TX2 7).1 (TX2 7).2.1 (TX2 7).2.2.1 ∈ zw_G) (hdg : decode cc pc = .ok (.getfield index, 3))
    (kk : zs_Z p l e R s m args below meth c D vwCl 88 ad (wC cI cN cW ad) nL ov out σ (pc + 3) lv (.ref (ad (72 + k)) :: st)) : zs_Z p l e R s m args below meth c D vwCl 88 ad (wC cI cN cW ad) nL ov out σ pc lv (.ref (ad (68 + k)) :: st) :=
  zs_get C (fun w h => zw_in (zw_fX2 w h)) (68 + k) (by omega) (zc_Worker hk) rfl 7 (by decide) (zw_in hlink) rfl hdg kk
theorem gC_Worker_start (C : zs_C p s m args meth c cc nL (w0 :: zw_G) own D vwCl (tysC cI cN cW) 88 ad) (hk : k < 4) (hlink : Cond.fieldLink own index (TX2 8).1 (TX2 8).2.1 (TX2 8).2.2.1 ∈ zw_G) (hdg : decode cc pc = .ok (.getfield index, 3))
    (kk : zs_Z p l e R s m args below meth c D vwCl 88 ad (wC cI cN cW ad) nL ov out σ (pc + 3) lv (.int (σ 17 k) :: st)) : zs_Z p l e R s m args below meth c D vwCl 88 ad (wC cI cN cW ad) nL ov out σ pc lv (.ref (ad (68 + k)) :: st) :=
  zs_get C (fun w h => zw_in (zw_fX2 w h)) (68 + k) (by omega) (zc_Worker hk) rfl 8 (by decide) (zw_in hlink) rfl hdg kk
theorem pC_Worker_start (C : zs_C p s m args meth c cc nL (w0 :: zw_G) own D vwCl (tysC cI cN cW) 88 ad) {v : Int32} (hk : k < 4) (hlink : Cond.fieldLink own index (TX2 8).1 (TX2 8).2.1 (TX2 8).2.2.1 ∈ zw_G) (hdg : decode cc pc = .ok (.putfield index, 3))
    (kk : zs_Z p l e R s m args below meth c D vwCl 88 ad (wC cI cN cW ad) nL ov out (zs_u σ 17 k v) (pc + 3) lv (st)) : zs_Z p l e R s m args below meth c D vwCl 88 ad (wC cI cN cW ad) nL ov out σ pc lv (.int v :: .ref (ad (68 + k)) :: st) :=
  zs_put (ty := .int) C (fun w h => zw_in (zw_fX2 w h)) tyX2 tyX2_ok nmX2 (68 + k) (zc_Worker hk) rfl 8 (by decide) (zw_in hlink) rfl (by decide +kernel) rfl rfl (Nat.le_of_ble_eq_true rfl) (zc_set_Worker_start hk v) hdg kk
theorem gC_Worker_prev (C : zs_C p s m args meth c cc nL (w0 :: zw_G) own D vwCl (tysC cI cN cW) 88 ad) (hk : k < 4) (hlink : Cond.fieldLink own index (TX2 9).1 (TX2 9).2.1 (TX2 9).2.2.1 ∈ zw_G) (hdg : decode cc pc = .ok (.getfield index, 3))
    (kk : zs_Z p l e R s m args below meth c D vwCl 88 ad (wC cI cN cW ad) nL ov out σ (pc + 3) lv (.int (σ 18 k) :: st)) : zs_Z p l e R s m args below meth c D vwCl 88 ad (wC cI cN cW ad) nL ov out σ pc lv (.ref (ad (68 + k)) :: st) :=
  zs_get C (fun w h => zw_in (zw_fX2 w h)) (68 + k) (by omega) (zc_Worker hk) rfl 9 (by decide) (zw_in hlink) rfl hdg kk
theorem pC_Worker_prev (C : zs_C p s m args meth c cc nL (w0 :: zw_G) own D vwCl (tysC cI cN cW) 88 ad) {v : Int32} (hk : k < 4) (hlink : Cond.fieldLink own index (TX2 9).1 (TX2 9).2.1 (TX2 9).2.2.1 ∈ zw_G) (hdg : decode cc pc = .ok (.putfield index, 3))
    (kk : zs_Z p l e R s m args below meth c D vwCl 88 ad (wC cI cN cW ad) nL ov out (zs_u σ 18 k v) (pc + 3) lv (st)) : zs_Z p l e R s m args below meth c D vwCl 88 ad (wC cI cN cW ad) nL ov out σ pc lv (.int v :: .ref (ad (68 + k)) :: st) :=
  zs_put (ty := .int) C (fun w h => zw_in (zw_fX2 w h)) tyX2 tyX2_ok nmX2 (68 + k) (zc_Worker hk) rfl 9 (by decide) (zw_in hlink) rfl (by decide +kernel) rfl rfl (Nat.le_of_ble_eq_true rfl) (zc_set_Worker_prev hk v) hdg kk
theorem gC_Worker_cur (C : zs_C p s m args meth c cc nL (w0 :: zw_G) own D vwCl (tysC cI cN cW) 88 ad) (hk : k < 4) (hlink : Cond.fieldLink own index (TX2 10).1 (TX2 10).2.1 (TX2 10).2.2.1 ∈ zw_G) (hdg : decode cc pc = .ok (.getfield index, 3))
    (kk : zs_Z p l e R s m args below meth c D vwCl 88 ad (wC cI cN cW ad) nL ov out σ (pc + 3) lv (.int (σ 19 k) :: st)) : zs_Z p l e R s m args below meth c D vwCl 88 ad (wC cI cN cW ad) nL ov out σ pc lv (.ref (ad (68 + k)) :: st) :=
  zs_get C (fun w h => zw_in (zw_fX2 w h)) (68 + k) (by omega) (zc_Worker hk) rfl 10 (by decide) (zw_in hlink) rfl hdg kk
theorem pC_Worker_cur (C : zs_C p s m args meth c cc nL (w0 :: zw_G) own D vwCl (tysC cI cN cW) 88 ad) {v : Int32} (hk : k < 4) (hlink : Cond.fieldLink own index (TX2 10).1 (TX2 10).2.1 (TX2 10).2.2.1 ∈ zw_G) (hdg : decode cc pc = .ok (.putfield index, 3))
    (kk : zs_Z p l e R s m args below meth c D vwCl 88 ad (wC cI cN cW ad) nL ov out (zs_u σ 19 k v) (pc + 3) lv (st)) : zs_Z p l e R s m args below meth c D vwCl 88 ad (wC cI cN cW ad) nL ov out σ pc lv (.int v :: .ref (ad (68 + k)) :: st) :=
  zs_put (ty := .int) C (fun w h => zw_in (zw_fX2 w h)) tyX2 tyX2_ok nmX2 (68 + k) (zc_Worker hk) rfl 10 (by decide) (zw_in hlink) rfl (by decide +kernel) rfl rfl (Nat.le_of_ble_eq_true rfl) (zc_set_Worker_cur hk v) hdg kk
theorem gC_Worker_nxt (C : zs_C p s m args meth c cc nL (w0 :: zw_G) own D vwCl (tysC cI cN cW) 88 ad) (hk : k < 4) (hlink : Cond.fieldLink own index (TX2 11).1 (TX2 11).2.1 (TX2 11).2.2.1 ∈ zw_G) (hdg : decode cc pc = .ok (.getfield index, 3))
    (kk : zs_Z p l e R s m args below meth c D vwCl 88 ad (wC cI cN cW ad) nL ov out σ (pc + 3) lv (.int (σ 20 k) :: st)) : zs_Z p l e R s m args below meth c D vwCl 88 ad (wC cI cN cW ad) nL ov out σ pc lv (.ref (ad (68 + k)) :: st) :=
  zs_get C (fun w h => zw_in (zw_fX2 w h)) (68 + k) (by omega) (zc_Worker hk) rfl 11 (by decide) (zw_in hlink) rfl hdg kk
theorem pC_Worker_nxt (C : zs_C p s m args meth c cc nL (w0 :: zw_G) own D vwCl (tysC cI cN cW) 88 ad) {v : Int32} (hk : k < 4) (hlink : Cond.fieldLink own index (TX2 11).1 (TX2 11).2.1 (TX2 11).2.2.1 ∈ zw_G) (hdg : decode cc pc = .ok (.putfield index, 3))
    (kk : zs_Z p l e R s m args below meth c D vwCl 88 ad (wC cI cN cW ad) nL ov out (zs_u σ 20 k v) (pc + 3) lv (st)) : zs_Z p l e R s m args below meth c D vwCl 88 ad (wC cI cN cW ad) nL ov out σ pc lv (.int v :: .ref (ad (68 + k)) :: st) :=
  zs_put (ty := .int) C (fun w h => zw_in (zw_fX2 w h)) tyX2 tyX2_ok nmX2 (68 + k) (zc_Worker hk) rfl 11 (by decide) (zw_in hlink) rfl (by decide +kernel) rfl rfl (Nat.le_of_ble_eq_true rfl) (zc_set_Worker_nxt hk v) hdg kk
theorem gC_Worker_curMarked (C : zs_C p s m args meth c cc nL (w0 :: zw_G) own D vwCl (tysC cI cN cW) 88 ad) (hk : k < 4) (hlink : Cond.fieldLink own index (TX2 12).1 (TX2 12).2.1 (TX2 12).2.2.1 ∈ zw_G) (hdg : decode cc pc = .ok (.getfield index, 3))
    (kk : zs_Z p l e R s m args below meth c D vwCl 88 ad (wC cI cN cW ad) nL ov out σ (pc + 3) lv (.int (σ 21 k) :: st)) : zs_Z p l e R s m args below meth c D vwCl 88 ad (wC cI cN cW ad) nL ov out σ pc lv (.ref (ad (68 + k)) :: st) :=
  zs_get C (fun w h => zw_in (zw_fX2 w h)) (68 + k) (by omega) (zc_Worker hk) rfl 12 (by decide) (zw_in hlink) rfl hdg kk
theorem pC_Worker_curMarked (C : zs_C p s m args meth c cc nL (w0 :: zw_G) own D vwCl (tysC cI cN cW) 88 ad) {v : Int32} (hk : k < 4) (hlink : Cond.fieldLink own index (TX2 12).1 (TX2 12).2.1 (TX2 12).2.2.1 ∈ zw_G) (hz : zs_B v) (hdg : decode cc pc = .ok (.putfield index, 3))
    (kk : zs_Z p l e R s m args below meth c D vwCl 88 ad (wC cI cN cW ad) nL ov out (zs_u σ 21 k v) (pc + 3) lv (st)) : zs_Z p l e R s m args below meth c D vwCl 88 ad (wC cI cN cW ad) nL ov out σ pc lv (.int v :: .ref (ad (68 + k)) :: st) :=
  zs_put (ty := .boolean) C (fun w h => zw_in (zw_fX2 w h)) tyX2 tyX2_ok nmX2 (68 + k) (zc_Worker hk) rfl 12 (by decide) (zw_in hlink) rfl (by decide +kernel) (zs_nz hz) (zs_fz hz) (Nat.le_of_ble_eq_true rfl) (zc_set_Worker_curMarked hk v) hdg kk
theorem gC_Worker_own (C : zs_C p s m args meth c cc nL (w0 :: zw_G) own D vwCl (tysC cI cN cW) 88 ad) (hk : k < 4) (hlink : Cond.fieldLink own index (TX2 13).1 (TX2 13).2.1 (TX2 13).2.2.1 ∈ zw_G) (hdg : decode cc pc = .ok (.getfield index, 3))
    (kk : zs_Z p l e R s m args below meth c D vwCl 88 ad (wC cI cN cW ad) nL ov out σ (pc + 3) lv (.int (σ 22 k) :: st)) : zs_Z p l e R s m args below meth c D vwCl 88 ad (wC cI cN cW ad) nL ov out σ pc lv (.ref (ad (68 + k)) :: st) :=
  zs_get C (fun w h => zw_in (zw_fX2 w h)) (68 + k) (by omega) (zc_Worker hk) rfl 13 (by decide) (zw_in hlink) rfl hdg kk
theorem pC_Worker_own (C : zs_C p s m args meth c cc nL (w0 :: zw_G) own D vwCl (tysC cI cN cW) 88 ad) {v : Int32} (hk : k < 4) (hlink : Cond.fieldLink own index (TX2 13).1 (TX2 13).2.1 (TX2 13).2.2.1 ∈ zw_G) (hdg : decode cc pc = .ok (.putfield index, 3))
    (kk : zs_Z p l e R s m args below meth c D vwCl 88 ad (wC cI cN cW ad) nL ov out (zs_u σ 22 k v) (pc + 3) lv (st)) : zs_Z p l e R s m args below meth c D vwCl 88 ad (wC cI cN cW ad) nL ov out σ pc lv (.int v :: .ref (ad (68 + k)) :: st) :=
  zs_put (ty := .int) C (fun w h => zw_in (zw_fX2 w h)) tyX2 tyX2_ok nmX2 (68 + k) (zc_Worker hk) rfl 13 (by decide) (zw_in hlink) rfl (by decide +kernel) rfl rfl (Nat.le_of_ble_eq_true rfl) (zc_set_Worker_own hk v) hdg kk
theorem gC_Worker_bucketNode (C : zs_C p s m args meth c cc nL (w0 :: zw_G) own D vwCl (tysC cI cN cW) 88 ad) (hk : k < 4) (hlink : Cond.fieldLink own index (TX2 14).1 (TX2 14).2.1 (TX2 14).2.2.1 ∈ zw_G) (hdg : decode cc pc = .ok (.getfield index, 3))
    (kk : zs_Z p l e R s m args below meth c D vwCl 88 ad (wC cI cN cW ad) nL ov out σ (pc + 3) lv (.int (σ 23 k) :: st)) : zs_Z p l e R s m args below meth c D vwCl 88 ad (wC cI cN cW ad) nL ov out σ pc lv (.ref (ad (68 + k)) :: st) :=
  zs_get C (fun w h => zw_in (zw_fX2 w h)) (68 + k) (by omega) (zc_Worker hk) rfl 14 (by decide) (zw_in hlink) rfl hdg kk
theorem pC_Worker_bucketNode (C : zs_C p s m args meth c cc nL (w0 :: zw_G) own D vwCl (tysC cI cN cW) 88 ad) {v : Int32} (hk : k < 4) (hlink : Cond.fieldLink own index (TX2 14).1 (TX2 14).2.1 (TX2 14).2.2.1 ∈ zw_G) (hdg : decode cc pc = .ok (.putfield index, 3))
    (kk : zs_Z p l e R s m args below meth c D vwCl 88 ad (wC cI cN cW ad) nL ov out (zs_u σ 23 k v) (pc + 3) lv (st)) : zs_Z p l e R s m args below meth c D vwCl 88 ad (wC cI cN cW ad) nL ov out σ pc lv (.int v :: .ref (ad (68 + k)) :: st) :=
  zs_put (ty := .int) C (fun w h => zw_in (zw_fX2 w h)) tyX2 tyX2_ok nmX2 (68 + k) (zc_Worker hk) rfl 14 (by decide) (zw_in hlink) rfl (by decide +kernel) rfl rfl (Nat.le_of_ble_eq_true rfl) (zc_set_Worker_bucketNode hk v) hdg kk
theorem gC_Worker_cleans (C : zs_C p s m args meth c cc nL (w0 :: zw_G) own D vwCl (tysC cI cN cW) 88 ad) (hk : k < 4) (hlink : Cond.fieldLink own index (TX2 15).1 (TX2 15).2.1 (TX2 15).2.2.1 ∈ zw_G) (hdg : decode cc pc = .ok (.getfield index, 3))
    (kk : zs_Z p l e R s m args below meth c D vwCl 88 ad (wC cI cN cW ad) nL ov out σ (pc + 3) lv (.int (σ 24 k) :: st)) : zs_Z p l e R s m args below meth c D vwCl 88 ad (wC cI cN cW ad) nL ov out σ pc lv (.ref (ad (68 + k)) :: st) :=
  zs_get C (fun w h => zw_in (zw_fX2 w h)) (68 + k) (by omega) (zc_Worker hk) rfl 15 (by decide) (zw_in hlink) rfl hdg kk
theorem pC_Worker_cleans (C : zs_C p s m args meth c cc nL (w0 :: zw_G) own D vwCl (tysC cI cN cW) 88 ad) {v : Int32} (hk : k < 4) (hlink : Cond.fieldLink own index (TX2 15).1 (TX2 15).2.1 (TX2 15).2.2.1 ∈ zw_G) (hz : zs_B v) (hdg : decode cc pc = .ok (.putfield index, 3))
    (kk : zs_Z p l e R s m args below meth c D vwCl 88 ad (wC cI cN cW ad) nL ov out (zs_u σ 24 k v) (pc + 3) lv (st)) : zs_Z p l e R s m args below meth c D vwCl 88 ad (wC cI cN cW ad) nL ov out σ pc lv (.int v :: .ref (ad (68 + k)) :: st) :=
  zs_put (ty := .boolean) C (fun w h => zw_in (zw_fX2 w h)) tyX2 tyX2_ok nmX2 (68 + k) (zc_Worker hk) rfl 15 (by decide) (zw_in hlink) rfl (by decide +kernel) (zs_nz hz) (zs_fz hz) (Nat.le_of_ble_eq_true rfl) (zc_set_Worker_cleans hk v) hdg kk
theorem gC_Worker_answer (C : zs_C p s m args meth c cc nL (w0 :: zw_G) own D vwCl (tysC cI cN cW) 88 ad) (hk : k < 4) (hlink : Cond.fieldLink own index (TX2 16).1 (TX2 16).2.1 (TX2 16).2.2.1 ∈ zw_G) (hdg : decode cc pc = .ok (.getfield index, 3))
    (kk : zs_Z p l e R s m args below meth c D vwCl 88 ad (wC cI cN cW ad) nL ov out σ (pc + 3) lv (.int (σ 25 k) :: st)) : zs_Z p l e R s m args below meth c D vwCl 88 ad (wC cI cN cW ad) nL ov out σ pc lv (.ref (ad (68 + k)) :: st) :=
  zs_get C (fun w h => zw_in (zw_fX2 w h)) (68 + k) (by omega) (zc_Worker hk) rfl 16 (by decide) (zw_in hlink) rfl hdg kk
theorem pC_Worker_answer (C : zs_C p s m args meth c cc nL (w0 :: zw_G) own D vwCl (tysC cI cN cW) 88 ad) {v : Int32} (hk : k < 4) (hlink : Cond.fieldLink own index (TX2 16).1 (TX2 16).2.1 (TX2 16).2.2.1 ∈ zw_G) (hdg : decode cc pc = .ok (.putfield index, 3))
    (kk : zs_Z p l e R s m args below meth c D vwCl 88 ad (wC cI cN cW ad) nL ov out (zs_u σ 25 k v) (pc + 3) lv (st)) : zs_Z p l e R s m args below meth c D vwCl 88 ad (wC cI cN cW ad) nL ov out σ pc lv (.int v :: .ref (ad (68 + k)) :: st) :=
  zs_put (ty := .int) C (fun w h => zw_in (zw_fX2 w h)) tyX2 tyX2_ok nmX2 (68 + k) (zc_Worker hk) rfl 16 (by decide) (zw_in hlink) rfl (by decide +kernel) rfl rfl (Nat.le_of_ble_eq_true rfl) (zc_set_Worker_answer hk v) hdg kk
theorem gC_Worker_latest (C : zs_C p s m args meth c cc nL (w0 :: zw_G) own D vwCl (tysC cI cN cW) 88 ad) (hk : k < 4) (hlink : Cond.fieldLink own index (TX2 17).1 (TX2 17).2.1 (TX2 17).2.2.1 ∈ zw_G) (hdg : decode cc pc = .ok (.getfield index, 3))
    (kk : zs_Z p l e R s m args below meth c D vwCl 88 ad (wC cI cN cW ad) nL ov out σ (pc + 3) lv (.int (σ 26 k) :: st)) : zs_Z p l e R s m args below meth c D vwCl 88 ad (wC cI cN cW ad) nL ov out σ pc lv (.ref (ad (68 + k)) :: st) :=
  zs_get C (fun w h => zw_in (zw_fX2 w h)) (68 + k) (by omega) (zc_Worker hk) rfl 17 (by decide) (zw_in hlink) rfl hdg kk
theorem pC_Worker_latest (C : zs_C p s m args meth c cc nL (w0 :: zw_G) own D vwCl (tysC cI cN cW) 88 ad) {v : Int32} (hk : k < 4) (hlink : Cond.fieldLink own index (TX2 17).1 (TX2 17).2.1 (TX2 17).2.2.1 ∈ zw_G) (hdg : decode cc pc = .ok (.putfield index, 3))
    (kk : zs_Z p l e R s m args below meth c D vwCl 88 ad (wC cI cN cW ad) nL ov out (zs_u σ 26 k v) (pc + 3) lv (st)) : zs_Z p l e R s m args below meth c D vwCl 88 ad (wC cI cN cW ad) nL ov out σ pc lv (.int v :: .ref (ad (68 + k)) :: st) :=
  zs_put (ty := .int) C (fun w h => zw_in (zw_fX2 w h)) tyX2 tyX2_ok nmX2 (68 + k) (zc_Worker hk) rfl 17 (by decide) (zw_in hlink) rfl (by decide +kernel) rfl rfl (Nat.le_of_ble_eq_true rfl) (zc_set_Worker_latest hk v) hdg kk
theorem gC_Worker_row (C : zs_C p s m args meth c cc nL (w0 :: zw_G) own D vwCl (tysC cI cN cW) 88 ad) (hk : k < 4) (hlink : Cond.fieldLink own index (TX2 18).1 (TX2 18).2.1 (TX2 18).2.2.1 ∈ zw_G) (hdg : decode cc pc = .ok (.getfield index, 3))
    (kk : zs_Z p l e R s m args below meth c D vwCl 88 ad (wC cI cN cW ad) nL ov out σ (pc + 3) lv (.ref (ad (72 + (4 + k))) :: st)) : zs_Z p l e R s m args below meth c D vwCl 88 ad (wC cI cN cW ad) nL ov out σ pc lv (.ref (ad (68 + k)) :: st) :=
  zs_get C (fun w h => zw_in (zw_fX2 w h)) (68 + k) (by omega) (zc_Worker hk) rfl 18 (by decide) (zw_in hlink) rfl hdg kk
theorem gC_Num_items (C : zs_C p s m args meth c cc nL (w0 :: zw_G) own D vwCl (tysC cI cN cW) 88 ad) (hk : k < 8) (hlink : Cond.fieldLink own index (TX1 0).1 (TX1 0).2.1 (TX1 0).2.2.1 ∈ zw_G) (hdg : decode cc pc = .ok (.getfield index, 3))
    (kk : zs_Z p l e R s m args below meth c D vwCl 88 ad (wC cI cN cW ad) nL ov out σ (pc + 3) lv (.ref (ad (80 + k)) :: st)) : zs_Z p l e R s m args below meth c D vwCl 88 ad (wC cI cN cW ad) nL ov out σ pc lv (.ref (ad (72 + k)) :: st) :=
  zs_get C (fun w h => zw_in (zw_fX1 w h)) (72 + k) (by omega) (zc_Num hk) rfl 0 (by decide) (zw_in hlink) rfl hdg kk
theorem gC_Num_length (C : zs_C p s m args meth c cc nL (w0 :: zw_G) own D vwCl (tysC cI cN cW) 88 ad) (hk : k < 8) (hlink : Cond.fieldLink own index (TX1 1).1 (TX1 1).2.1 (TX1 1).2.2.1 ∈ zw_G) (hdg : decode cc pc = .ok (.getfield index, 3))
    (kk : zs_Z p l e R s m args below meth c D vwCl 88 ad (wC cI cN cW ad) nL ov out σ (pc + 3) lv (.int (σ 30 k) :: st)) : zs_Z p l e R s m args below meth c D vwCl 88 ad (wC cI cN cW ad) nL ov out σ pc lv (.ref (ad (72 + k)) :: st) :=
  zs_get C (fun w h => zw_in (zw_fX1 w h)) (72 + k) (by omega) (zc_Num hk) rfl 1 (by decide) (zw_in hlink) rfl hdg kk
theorem pC_Num_length (C : zs_C p s m args meth c cc nL (w0 :: zw_G) own D vwCl (tysC cI cN cW) 88 ad) {v : Int32} (hk : k < 8) (hlink : Cond.fieldLink own index (TX1 1).1 (TX1 1).2.1 (TX1 1).2.2.1 ∈ zw_G) (hdg : decode cc pc = .ok (.putfield index, 3))
    (kk : zs_Z p l e R s m args below meth c D vwCl 88 ad (wC cI cN cW ad) nL ov out (zs_u σ 30 k v) (pc + 3) lv (st)) : zs_Z p l e R s m args below meth c D vwCl 88 ad (wC cI cN cW ad) nL ov out σ pc lv (.int v :: .ref (ad (72 + k)) :: st) :=
  zs_put (ty := .int) C (fun w h => zw_in (zw_fX1 w h)) tyX1 tyX1_ok nmX1 (72 + k) (zc_Num hk) rfl 1 (by decide) (zw_in hlink) rfl (by decide +kernel) rfl rfl (Nat.le_of_ble_eq_true rfl) (zc_set_Num_length hk v) hdg kk
theorem aC_nodes (C : zs_C p s m args meth c cc nL (w0 :: zw_G) own D vwCl (tysC cI cN cW) 88 ad) {i : Int32} (hin : vp_in i 64) (hdg : decode cc pc = .ok (.aaload, 1))
    (kk : zs_Z p l e R s m args below meth c D vwCl 88 ad (wC cI cN cW ad) nL ov out σ (pc + 1) lv (.ref (ad (4 + i.toNatClampNeg)) :: st)) : zs_Z p l e R s m args below meth c D vwCl 88 ad (wC cI cN cW ad) nL ov out σ pc lv (.int i :: .ref (ad 1) :: st) :=
  zs_aald C 1 1 (by decide) zc_NODES rfl hin rfl hdg kk
theorem aC_workers (C : zs_C p s m args meth c cc nL (w0 :: zw_G) own D vwCl (tysC cI cN cW) 88 ad) {i : Int32} (hin : vp_in i 4) (hdg : decode cc pc = .ok (.aaload, 1))
    (kk : zs_Z p l e R s m args below meth c D vwCl 88 ad (wC cI cN cW ad) nL ov out σ (pc + 1) lv (.ref (ad (68 + i.toNatClampNeg)) :: st)) : zs_Z p l e R s m args below meth c D vwCl 88 ad (wC cI cN cW ad) nL ov out σ pc lv (.int i :: .ref (ad 2) :: st) :=
  zs_aald C 2 2 (by decide) zc_WORKERS rfl hin rfl hdg kk
theorem aC_bk (C : zs_C p s m args meth c cc nL (w0 :: zw_G) own D vwCl (tysC cI cN cW) 88 ad) {i : Int32} (hin : vp_in i 16) (hdg : decode cc pc = .ok (.iaload, 1))
    (kk : zs_Z p l e R s m args below meth c D vwCl 88 ad (wC cI cN cW ad) nL ov out σ (pc + 1) lv (.int (σ 31 (i.toNatClampNeg)) :: st)) : zs_Z p l e R s m args below meth c D vwCl 88 ad (wC cI cN cW ad) nL ov out σ pc lv (.int i :: .ref (ad 3) :: st) :=
  zs_iald C 3 0 (by decide) zc_BK rfl hin hdg kk
theorem sC_bk (C : zs_C p s m args meth c cc nL (w0 :: zw_G) own D vwCl (tysC cI cN cW) 88 ad) {i x : Int32} (hin : vp_in i 16) (hdg : decode cc pc = .ok (.iastore, 1))
    (kk : zs_Z p l e R s m args below meth c D vwCl 88 ad (wC cI cN cW ad) nL ov out (zs_u σ 31 (i.toNatClampNeg) x) (pc + 1) lv (st)) : zs_Z p l e R s m args below meth c D vwCl 88 ad (wC cI cN cW ad) nL ov out σ pc lv (.int x :: .int i :: .ref (ad 3) :: st) :=
  zs_iast C 3 0 zc_BK rfl hin (zc_set_bk _ _) hdg kk
theorem aC_items (C : zs_C p s m args meth c cc nL (w0 :: zw_G) own D vwCl (tysC cI cN cW) 88 ad) {i : Int32} (hk : k < 8) (hin : vp_in i (zc_len k)) (hdg : decode cc pc = .ok (.iaload, 1))
    (kk : zs_Z p l e R s m args below meth c D vwCl 88 ad (wC cI cN cW ad) nL ov out σ (pc + 1) lv (.int (σ (40 + k) (i.toNatClampNeg)) :: st)) : zs_Z p l e R s m args below meth c D vwCl 88 ad (wC cI cN cW ad) nL ov out σ pc lv (.int i :: .ref (ad (80 + k)) :: st) :=
  zs_iald C (80 + k) 0 (by omega) (zc_Items hk) rfl hin hdg kk
theorem sC_items (C : zs_C p s m args meth c cc nL (w0 :: zw_G) own D vwCl (tysC cI cN cW) 88 ad) {i x : Int32} (hk : k < 8) (hin : vp_in i (zc_len k)) (hdg : decode cc pc = .ok (.iastore, 1))
    (kk : zs_Z p l e R s m args below meth c D vwCl 88 ad (wC cI cN cW ad) nL ov out (zs_u σ (40 + k) (i.toNatClampNeg) x) (pc + 1) lv (st)) : zs_Z p l e R s m args below meth c D vwCl 88 ad (wC cI cN cW ad) nL ov out σ pc lv (.int x :: .int i :: .ref (ad (80 + k)) :: st) :=
  zs_iast C (80 + k) 0 (zc_Items hk) rfl hin (zc_set_items hk _ _) hdg kk
theorem lC_items (C : zs_C p s m args meth c cc nL (w0 :: zw_G) own D vwCl (tysC cI cN cW) 88 ad) (hk : k < 8) (hdg : decode cc pc = .ok (.arraylength, 1))
    (kk : zs_Z p l e R s m args below meth c D vwCl 88 ad (wC cI cN cW ad) nL ov out σ (pc + 1) lv (.int (Int32.ofNat (zc_len k)) :: st)) : zs_Z p l e R s m args below meth c D vwCl 88 ad (wC cI cN cW ad) nL ov out σ pc lv (.ref (ad (80 + k)) :: st) :=
  zs_alen C (80 + k) 0 (by omega) (zc_Items hk) rfl rfl hdg kk
end ZCR
