abbrev tysM (cI cZ : ClassId) : List (ClassId × FieldType) := [(cI, .int), (cZ, .boolean)]
/-- the arrays of the reference, by their cells: which component, how long, of booleans or not -/
def zm_c (i : Nat) : Nat := match i with
  | 1 => 0
  | 2 => 1
  | 3 => 2
  | 4 => 3
  | 5 => 4
  | 6 => 5
  | 7 => 6
  | 8 => 7
  | 9 => 31
  | 10 => 10
  | 11 => 11
  | 12 => 12
  | 13 => 13
  | 14 => 14
  | 15 => 15
  | 16 => 16
  | 17 => 27
  | 18 => 30
  | 19 => 17
  | 20 => 18
  | 21 => 19
  | 22 => 20
  | 23 => 21
  | 24 => 22
  | 25 => 23
  | 26 => 24
  | 27 => 25
  | 28 => 28
  | 29 => 29
  | 30 => 26
  | _ => 99
def zm_n (i : Nat) : Nat := match i with
  | 1 => 64
  | 2 => 64
  | 3 => 64
  | 4 => 64
  | 5 => 64
  | 6 => 64
  | 7 => 64
  | 8 => 64
  | 9 => 16
  | 10 => 4
  | 11 => 4
  | 12 => 4
  | 13 => 4
  | 14 => 4
  | 15 => 4
  | 16 => 4
  | 17 => 64
  | 18 => 4
  | 19 => 4
  | 20 => 4
  | 21 => 4
  | 22 => 4
  | 23 => 4
  | 24 => 4
  | 25 => 4
  | 26 => 4
  | 27 => 4
  | 28 => 256
  | 29 => 4
  | 30 => 4
  | _ => 0
def zm_z (i : Nat) : Bool := match i with
  | 4 => true
  | 23 => true
  | 26 => true
  | _ => false
def wM (cI cZ : ClassId) (ad : Nat → Nat) (σ : zs_T) (i : Nat) : va_E :=
  if i = 0 then .inr (4, [.int (σ 35 0), .ref (ad 1), .ref (ad 2), .ref (ad 3), .ref (ad 4), .ref (ad 5), .ref (ad 6), .ref (ad 7), .ref (ad 8), .ref (ad 9), .int (σ 32 0), .int (σ 33 0), .int (σ 34 0), .ref (ad 10), .ref (ad 11), .ref (ad 12), .ref (ad 13), .ref (ad 14), .ref (ad 15), .ref (ad 16), .ref (ad 17), .ref (ad 18), .ref (ad 19), .ref (ad 20), .ref (ad 21), .ref (ad 22), .ref (ad 23), .ref (ad 24), .ref (ad 25), .ref (ad 26), .ref (ad 27), .ref (ad 28), .ref (ad 29), .ref (ad 30)])
  else .inl (if zm_z i then cZ else cI, zm_n i, .inl (σ (zm_c i)))
theorem zm_cne0 : ((List.range 31).all fun i => (List.range 31).all fun j => i == 0 || j == 0 || i == j || zm_c i != zm_c j) = true := by decide +kernel
theorem zm_cne (i : Nat) (hi : i < 31) (j : Nat) (hj : j < 31) (h1 : i ≠ 0) (h2 : j ≠ 0) (h3 : i ≠ j) : zm_c i ≠ zm_c j := by
  have h := List.all_eq_true.mp (List.all_eq_true.mp zm_cne0 i (List.mem_range.mpr hi)) j (List.mem_range.mpr hj)
  simpa [h1, h2, h3] using h
theorem zm_cs : ∀ i, i < 31 → i ≠ 0 → zm_c i < 32 := by decide +kernel
section ZM
variable {cI cZ : ClassId} {ad : Nat → Nat} {σ : zs_T}
theorem zm_0 : wM cI cZ ad σ 0 = .inr (4, [.int (σ 35 0), .ref (ad 1), .ref (ad 2), .ref (ad 3), .ref (ad 4), .ref (ad 5), .ref (ad 6), .ref (ad 7), .ref (ad 8), .ref (ad 9), .int (σ 32 0), .int (σ 33 0), .int (σ 34 0), .ref (ad 10), .ref (ad 11), .ref (ad 12), .ref (ad 13), .ref (ad 14), .ref (ad 15), .ref (ad 16), .ref (ad 17), .ref (ad 18), .ref (ad 19), .ref (ad 20), .ref (ad 21), .ref (ad 22), .ref (ad 23), .ref (ad 24), .ref (ad 25), .ref (ad 26), .ref (ad 27), .ref (ad 28), .ref (ad 29), .ref (ad 30)]) := rfl
theorem zm_recv : 0 < 31 ∧ wM cI cZ ad σ 0 = .inr (4, [.int (σ 35 0), .ref (ad 1), .ref (ad 2), .ref (ad 3), .ref (ad 4), .ref (ad 5), .ref (ad 6), .ref (ad 7), .ref (ad 8), .ref (ad 9), .int (σ 32 0), .int (σ 33 0), .int (σ 34 0), .ref (ad 10), .ref (ad 11), .ref (ad 12), .ref (ad 13), .ref (ad 14), .ref (ad 15), .ref (ad 16), .ref (ad 17), .ref (ad 18), .ref (ad 19), .ref (ad 20), .ref (ad 21), .ref (ad 22), .ref (ad 23), .ref (ad 24), .ref (ad 25), .ref (ad 26), .ref (ad 27), .ref (ad 28), .ref (ad 29), .ref (ad 30)]) := ⟨by decide, rfl⟩
theorem zm_off0 {c : Nat} (hc : 32 ≤ c) (k : Nat) (v : Int32) : ∀ i, i < 31 → i ≠ 0 → wM cI cZ ad (zs_u σ c k v) i = wM cI cZ ad σ i := by
  intro i hi hne
  unfold wM
  rw [if_neg hne, if_neg hne, zs_uc (by have := zm_cs i hi hne; omega)]
theorem zm_offA {q : Nat} (hq : q < 31) (hq0 : q ≠ 0) (k : Nat) (v : Int32) : ∀ i, i < 31 → i ≠ q → wM cI cZ ad (zs_u σ (zm_c q) k v) i = wM cI cZ ad σ i := by
  intro i hi hne
  by_cases h0 : i = 0
  · subst h0
    have := zm_cs q hq hq0
    unfold wM
    rw [if_pos rfl, if_pos rfl, zs_uc (by omega), zs_uc (by omega), zs_uc (by omega), zs_uc (by omega)]
  · unfold wM
    rw [if_neg h0, if_neg h0, zs_uc (zm_cne i hi q hq h0 hq0 hne)]
theorem zm_set_thrownCode (v : Int32) : zs_S 31 (wM cI cZ ad) σ 0 (.inr (4, ([.int (σ 35 0), .ref (ad 1), .ref (ad 2), .ref (ad 3), .ref (ad 4), .ref (ad 5), .ref (ad 6), .ref (ad 7), .ref (ad 8), .ref (ad 9), .int (σ 32 0), .int (σ 33 0), .int (σ 34 0), .ref (ad 10), .ref (ad 11), .ref (ad 12), .ref (ad 13), .ref (ad 14), .ref (ad 15), .ref (ad 16), .ref (ad 17), .ref (ad 18), .ref (ad 19), .ref (ad 20), .ref (ad 21), .ref (ad 22), .ref (ad 23), .ref (ad 24), .ref (ad 25), .ref (ad 26), .ref (ad 27), .ref (ad 28), .ref (ad 29), .ref (ad 30)] : List Value).set 0 (.int v))) (zs_u σ 35 0 v) := ⟨by decide, by rw [zm_0]; simp [zs_u], zm_off0 (by decide) 0 v⟩
theorem zm_set_sort (j : Nat) (v : Int32) : zs_S 31 (wM cI cZ ad) σ 1 (.inl (cI, 64, .inl (upd (σ 0) j v))) (zs_u σ 0 j v) := ⟨by decide, by show Sum.inl (_, _, Sum.inl (zs_u σ 0 j v 0)) = _; congr 4; funext b; simp [zs_u, upd], zm_offA (q := 1) (by decide) (by decide) j v⟩
theorem zm_set_order (j : Nat) (v : Int32) : zs_S 31 (wM cI cZ ad) σ 2 (.inl (cI, 64, .inl (upd (σ 1) j v))) (zs_u σ 1 j v) := ⟨by decide, by show Sum.inl (_, _, Sum.inl (zs_u σ 1 j v 1)) = _; congr 4; funext b; simp [zs_u, upd], zm_offA (q := 2) (by decide) (by decide) j v⟩
theorem zm_set_next (j : Nat) (v : Int32) : zs_S 31 (wM cI cZ ad) σ 3 (.inl (cI, 64, .inl (upd (σ 2) j v))) (zs_u σ 2 j v) := ⟨by decide, by show Sum.inl (_, _, Sum.inl (zs_u σ 2 j v 2)) = _; congr 4; funext b; simp [zs_u, upd], zm_offA (q := 3) (by decide) (by decide) j v⟩
theorem zm_set_mark (j : Nat) (v : Int32) : zs_S 31 (wM cI cZ ad) σ 4 (.inl (cZ, 64, .inl (upd (σ 3) j v))) (zs_u σ 3 j v) := ⟨by decide, by show Sum.inl (_, _, Sum.inl (zs_u σ 3 j v 3)) = _; congr 4; funext b; simp [zs_u, upd], zm_offA (q := 4) (by decide) (by decide) j v⟩
theorem zm_set_keyOf (j : Nat) (v : Int32) : zs_S 31 (wM cI cZ ad) σ 5 (.inl (cI, 64, .inl (upd (σ 4) j v))) (zs_u σ 4 j v) := ⟨by decide, by show Sum.inl (_, _, Sum.inl (zs_u σ 4 j v 4)) = _; congr 4; funext b; simp [zs_u, upd], zm_offA (q := 5) (by decide) (by decide) j v⟩
theorem zm_set_valueOf (j : Nat) (v : Int32) : zs_S 31 (wM cI cZ ad) σ 6 (.inl (cI, 64, .inl (upd (σ 5) j v))) (zs_u σ 5 j v) := ⟨by decide, by show Sum.inl (_, _, Sum.inl (zs_u σ 5 j v 5)) = _; congr 4; funext b; simp [zs_u, upd], zm_offA (q := 6) (by decide) (by decide) j v⟩
theorem zm_set_born (j : Nat) (v : Int32) : zs_S 31 (wM cI cZ ad) σ 7 (.inl (cI, 64, .inl (upd (σ 6) j v))) (zs_u σ 6 j v) := ⟨by decide, by show Sum.inl (_, _, Sum.inl (zs_u σ 6 j v 6)) = _; congr 4; funext b; simp [zs_u, upd], zm_offA (q := 7) (by decide) (by decide) j v⟩
theorem zm_set_died (j : Nat) (v : Int32) : zs_S 31 (wM cI cZ ad) σ 8 (.inl (cI, 64, .inl (upd (σ 7) j v))) (zs_u σ 7 j v) := ⟨by decide, by show Sum.inl (_, _, Sum.inl (zs_u σ 7 j v 7)) = _; congr 4; funext b; simp [zs_u, upd], zm_offA (q := 8) (by decide) (by decide) j v⟩
theorem zm_set_buckets (j : Nat) (v : Int32) : zs_S 31 (wM cI cZ ad) σ 9 (.inl (cI, 16, .inl (upd (σ 31) j v))) (zs_u σ 31 j v) := ⟨by decide, by show Sum.inl (_, _, Sum.inl (zs_u σ 31 j v 31)) = _; congr 4; funext b; simp [zs_u, upd], zm_offA (q := 9) (by decide) (by decide) j v⟩
theorem zm_set_size (v : Int32) : zs_S 31 (wM cI cZ ad) σ 0 (.inr (4, ([.int (σ 35 0), .ref (ad 1), .ref (ad 2), .ref (ad 3), .ref (ad 4), .ref (ad 5), .ref (ad 6), .ref (ad 7), .ref (ad 8), .ref (ad 9), .int (σ 32 0), .int (σ 33 0), .int (σ 34 0), .ref (ad 10), .ref (ad 11), .ref (ad 12), .ref (ad 13), .ref (ad 14), .ref (ad 15), .ref (ad 16), .ref (ad 17), .ref (ad 18), .ref (ad 19), .ref (ad 20), .ref (ad 21), .ref (ad 22), .ref (ad 23), .ref (ad 24), .ref (ad 25), .ref (ad 26), .ref (ad 27), .ref (ad 28), .ref (ad 29), .ref (ad 30)] : List Value).set 10 (.int v))) (zs_u σ 32 0 v) := ⟨by decide, by rw [zm_0]; simp [zs_u], zm_off0 (by decide) 0 v⟩
theorem zm_set_count (v : Int32) : zs_S 31 (wM cI cZ ad) σ 0 (.inr (4, ([.int (σ 35 0), .ref (ad 1), .ref (ad 2), .ref (ad 3), .ref (ad 4), .ref (ad 5), .ref (ad 6), .ref (ad 7), .ref (ad 8), .ref (ad 9), .int (σ 32 0), .int (σ 33 0), .int (σ 34 0), .ref (ad 10), .ref (ad 11), .ref (ad 12), .ref (ad 13), .ref (ad 14), .ref (ad 15), .ref (ad 16), .ref (ad 17), .ref (ad 18), .ref (ad 19), .ref (ad 20), .ref (ad 21), .ref (ad 22), .ref (ad 23), .ref (ad 24), .ref (ad 25), .ref (ad 26), .ref (ad 27), .ref (ad 28), .ref (ad 29), .ref (ad 30)] : List Value).set 11 (.int v))) (zs_u σ 33 0 v) := ⟨by decide, by rw [zm_0]; simp [zs_u], zm_off0 (by decide) 0 v⟩
theorem zm_set_era (v : Int32) : zs_S 31 (wM cI cZ ad) σ 0 (.inr (4, ([.int (σ 35 0), .ref (ad 1), .ref (ad 2), .ref (ad 3), .ref (ad 4), .ref (ad 5), .ref (ad 6), .ref (ad 7), .ref (ad 8), .ref (ad 9), .int (σ 32 0), .int (σ 33 0), .int (σ 34 0), .ref (ad 10), .ref (ad 11), .ref (ad 12), .ref (ad 13), .ref (ad 14), .ref (ad 15), .ref (ad 16), .ref (ad 17), .ref (ad 18), .ref (ad 19), .ref (ad 20), .ref (ad 21), .ref (ad 22), .ref (ad 23), .ref (ad 24), .ref (ad 25), .ref (ad 26), .ref (ad 27), .ref (ad 28), .ref (ad 29), .ref (ad 30)] : List Value).set 12 (.int v))) (zs_u σ 34 0 v) := ⟨by decide, by rw [zm_0]; simp [zs_u], zm_off0 (by decide) 0 v⟩
theorem zm_set_place (j : Nat) (v : Int32) : zs_S 31 (wM cI cZ ad) σ 10 (.inl (cI, 4, .inl (upd (σ 10) j v))) (zs_u σ 10 j v) := ⟨by decide, by show Sum.inl (_, _, Sum.inl (zs_u σ 10 j v 10)) = _; congr 4; funext b; simp [zs_u, upd], zm_offA (q := 10) (by decide) (by decide) j v⟩
theorem zm_set_operation (j : Nat) (v : Int32) : zs_S 31 (wM cI cZ ad) σ 11 (.inl (cI, 4, .inl (upd (σ 11) j v))) (zs_u σ 11 j v) := ⟨by decide, by show Sum.inl (_, _, Sum.inl (zs_u σ 11 j v 11)) = _; congr 4; funext b; simp [zs_u, upd], zm_offA (q := 11) (by decide) (by decide) j v⟩
theorem zm_set_key (j : Nat) (v : Int32) : zs_S 31 (wM cI cZ ad) σ 12 (.inl (cI, 4, .inl (upd (σ 12) j v))) (zs_u σ 12 j v) := ⟨by decide, by show Sum.inl (_, _, Sum.inl (zs_u σ 12 j v 12)) = _; congr 4; funext b; simp [zs_u, upd], zm_offA (q := 12) (by decide) (by decide) j v⟩
theorem zm_set_value (j : Nat) (v : Int32) : zs_S 31 (wM cI cZ ad) σ 13 (.inl (cI, 4, .inl (upd (σ 13) j v))) (zs_u σ 13 j v) := ⟨by decide, by show Sum.inl (_, _, Sum.inl (zs_u σ 13 j v 13)) = _; congr 4; funext b; simp [zs_u, upd], zm_offA (q := 13) (by decide) (by decide) j v⟩
theorem zm_set_low (j : Nat) (v : Int32) : zs_S 31 (wM cI cZ ad) σ 14 (.inl (cI, 4, .inl (upd (σ 14) j v))) (zs_u σ 14 j v) := ⟨by decide, by show Sum.inl (_, _, Sum.inl (zs_u σ 14 j v 14)) = _; congr 4; funext b; simp [zs_u, upd], zm_offA (q := 14) (by decide) (by decide) j v⟩
theorem zm_set_high (j : Nat) (v : Int32) : zs_S 31 (wM cI cZ ad) σ 15 (.inl (cI, 4, .inl (upd (σ 15) j v))) (zs_u σ 15 j v) := ⟨by decide, by show Sum.inl (_, _, Sum.inl (zs_u σ 15 j v 15)) = _; congr 4; funext b; simp [zs_u, upd], zm_offA (q := 15) (by decide) (by decide) j v⟩
theorem zm_set_at (j : Nat) (v : Int32) : zs_S 31 (wM cI cZ ad) σ 16 (.inl (cI, 4, .inl (upd (σ 16) j v))) (zs_u σ 16 j v) := ⟨by decide, by show Sum.inl (_, _, Sum.inl (zs_u σ 16 j v 16)) = _; congr 4; funext b; simp [zs_u, upd], zm_offA (q := 16) (by decide) (by decide) j v⟩
theorem zm_set_stack (j : Nat) (v : Int32) : zs_S 31 (wM cI cZ ad) σ 17 (.inl (cI, 64, .inl (upd (σ 27) j v))) (zs_u σ 27 j v) := ⟨by decide, by show Sum.inl (_, _, Sum.inl (zs_u σ 27 j v 27)) = _; congr 4; funext b; simp [zs_u, upd], zm_offA (q := 17) (by decide) (by decide) j v⟩
theorem zm_set_depth (j : Nat) (v : Int32) : zs_S 31 (wM cI cZ ad) σ 18 (.inl (cI, 4, .inl (upd (σ 30) j v))) (zs_u σ 30 j v) := ⟨by decide, by show Sum.inl (_, _, Sum.inl (zs_u σ 30 j v 30)) = _; congr 4; funext b; simp [zs_u, upd], zm_offA (q := 18) (by decide) (by decide) j v⟩
theorem zm_set_from (j : Nat) (v : Int32) : zs_S 31 (wM cI cZ ad) σ 19 (.inl (cI, 4, .inl (upd (σ 17) j v))) (zs_u σ 17 j v) := ⟨by decide, by show Sum.inl (_, _, Sum.inl (zs_u σ 17 j v 17)) = _; congr 4; funext b; simp [zs_u, upd], zm_offA (q := 19) (by decide) (by decide) j v⟩
theorem zm_set_prev (j : Nat) (v : Int32) : zs_S 31 (wM cI cZ ad) σ 20 (.inl (cI, 4, .inl (upd (σ 18) j v))) (zs_u σ 18 j v) := ⟨by decide, by show Sum.inl (_, _, Sum.inl (zs_u σ 18 j v 18)) = _; congr 4; funext b; simp [zs_u, upd], zm_offA (q := 20) (by decide) (by decide) j v⟩
theorem zm_set_cur (j : Nat) (v : Int32) : zs_S 31 (wM cI cZ ad) σ 21 (.inl (cI, 4, .inl (upd (σ 19) j v))) (zs_u σ 19 j v) := ⟨by decide, by show Sum.inl (_, _, Sum.inl (zs_u σ 19 j v 19)) = _; congr 4; funext b; simp [zs_u, upd], zm_offA (q := 21) (by decide) (by decide) j v⟩
theorem zm_set_nxt (j : Nat) (v : Int32) : zs_S 31 (wM cI cZ ad) σ 22 (.inl (cI, 4, .inl (upd (σ 20) j v))) (zs_u σ 20 j v) := ⟨by decide, by show Sum.inl (_, _, Sum.inl (zs_u σ 20 j v 20)) = _; congr 4; funext b; simp [zs_u, upd], zm_offA (q := 22) (by decide) (by decide) j v⟩
theorem zm_set_marked (j : Nat) (v : Int32) : zs_S 31 (wM cI cZ ad) σ 23 (.inl (cZ, 4, .inl (upd (σ 21) j v))) (zs_u σ 21 j v) := ⟨by decide, by show Sum.inl (_, _, Sum.inl (zs_u σ 21 j v 21)) = _; congr 4; funext b; simp [zs_u, upd], zm_offA (q := 23) (by decide) (by decide) j v⟩
theorem zm_set_own (j : Nat) (v : Int32) : zs_S 31 (wM cI cZ ad) σ 24 (.inl (cI, 4, .inl (upd (σ 22) j v))) (zs_u σ 22 j v) := ⟨by decide, by show Sum.inl (_, _, Sum.inl (zs_u σ 22 j v 22)) = _; congr 4; funext b; simp [zs_u, upd], zm_offA (q := 24) (by decide) (by decide) j v⟩
theorem zm_set_given (j : Nat) (v : Int32) : zs_S 31 (wM cI cZ ad) σ 25 (.inl (cI, 4, .inl (upd (σ 23) j v))) (zs_u σ 23 j v) := ⟨by decide, by show Sum.inl (_, _, Sum.inl (zs_u σ 23 j v 23)) = _; congr 4; funext b; simp [zs_u, upd], zm_offA (q := 25) (by decide) (by decide) j v⟩
theorem zm_set_cleans (j : Nat) (v : Int32) : zs_S 31 (wM cI cZ ad) σ 26 (.inl (cZ, 4, .inl (upd (σ 24) j v))) (zs_u σ 24 j v) := ⟨by decide, by show Sum.inl (_, _, Sum.inl (zs_u σ 24 j v 24)) = _; congr 4; funext b; simp [zs_u, upd], zm_offA (q := 26) (by decide) (by decide) j v⟩
theorem zm_set_gone (j : Nat) (v : Int32) : zs_S 31 (wM cI cZ ad) σ 27 (.inl (cI, 4, .inl (upd (σ 25) j v))) (zs_u σ 25 j v) := ⟨by decide, by show Sum.inl (_, _, Sum.inl (zs_u σ 25 j v 25)) = _; congr 4; funext b; simp [zs_u, upd], zm_offA (q := 27) (by decide) (by decide) j v⟩
theorem zm_set_row (j : Nat) (v : Int32) : zs_S 31 (wM cI cZ ad) σ 28 (.inl (cI, 256, .inl (upd (σ 28) j v))) (zs_u σ 28 j v) := ⟨by decide, by show Sum.inl (_, _, Sum.inl (zs_u σ 28 j v 28)) = _; congr 4; funext b; simp [zs_u, upd], zm_offA (q := 28) (by decide) (by decide) j v⟩
theorem zm_set_rows (j : Nat) (v : Int32) : zs_S 31 (wM cI cZ ad) σ 29 (.inl (cI, 4, .inl (upd (σ 29) j v))) (zs_u σ 29 j v) := ⟨by decide, by show Sum.inl (_, _, Sum.inl (zs_u σ 29 j v 29)) = _; congr 4; funext b; simp [zs_u, upd], zm_offA (q := 29) (by decide) (by decide) j v⟩
theorem zm_set_results (j : Nat) (v : Int32) : zs_S 31 (wM cI cZ ad) σ 30 (.inl (cI, 4, .inl (upd (σ 26) j v))) (zs_u σ 26 j v) := ⟨by decide, by show Sum.inl (_, _, Sum.inl (zs_u σ 26 j v 26)) = _; congr 4; funext b; simp [zs_u, upd], zm_offA (q := 30) (by decide) (by decide) j v⟩
end ZM
section ZMR
variable {p : Program} {l : Launch} {e : Env} {R : Room} {s : State} {m : MethodId} {args : Array Value} {below : List Frame} {meth : Method} {c : Code} {D : va_G} {cI cZ : ClassId} {ad : Nat → Nat} {nL : Nat} {cc : ByteArray} {w0 : Cond} {own : String} {ov : Int32 → Option Value} {out : zs_O} {σ : zs_T} {pc index : Nat} {lv : List (Nat × Value)} {st : List Value}
theorem gM_thrownCode (C : zs_C p s m args meth c cc nL (w0 :: zw_G) own D vwCl (tysM cI cZ) 31 ad) (hlink : Cond.fieldLink own index (TX4 0).1 (TX4 0).2.1 (TX4 0).2.2.1 ∈ zw_G) (hdg : decode cc pc = .ok (.getfield index, 3))
    (kk : zs_Z p l e R s m args below meth c D vwCl 31 ad (wM cI cZ ad) nL ov out σ (pc + 3) lv (.int (σ 35 0) :: st)) : zs_Z p l e R s m args below meth c D vwCl 31 ad (wM cI cZ ad) nL ov out σ pc lv (.ref (ad 0) :: st) :=
  zs_get C (fun w h => zw_in (zw_fX4 w h)) 0 (by decide) zm_0 rfl 0 (by decide) (zw_in hlink) rfl hdg kk
theorem pM_thrownCode (C : zs_C p s m args meth c cc nL (w0 :: zw_G) own D vwCl (tysM cI cZ) 31 ad) {v : Int32} (hlink : Cond.fieldLink own index (TX4 0).1 (TX4 0).2.1 (TX4 0).2.2.1 ∈ zw_G) (hdg : decode cc pc = .ok (.putfield index, 3))
    (kk : zs_Z p l e R s m args below meth c D vwCl 31 ad (wM cI cZ ad) nL ov out (zs_u σ 35 0 v) (pc + 3) lv (st)) : zs_Z p l e R s m args below meth c D vwCl 31 ad (wM cI cZ ad) nL ov out σ pc lv (.int v :: .ref (ad 0) :: st) :=
  zs_put (ty := .int) C (fun w h => zw_in (zw_fX4 w h)) tyX4 tyX4_ok nmX4 0 zm_0 rfl 0 (by decide) (zw_in hlink) rfl (by decide +kernel) rfl rfl (Nat.le_of_ble_eq_true rfl) (zm_set_thrownCode v) hdg kk
theorem gM_sort (C : zs_C p s m args meth c cc nL (w0 :: zw_G) own D vwCl (tysM cI cZ) 31 ad) (hlink : Cond.fieldLink own index (TX4 1).1 (TX4 1).2.1 (TX4 1).2.2.1 ∈ zw_G) (hdg : decode cc pc = .ok (.getfield index, 3))
    (kk : zs_Z p l e R s m args below meth c D vwCl 31 ad (wM cI cZ ad) nL ov out σ (pc + 3) lv (.ref (ad 1) :: st)) : zs_Z p l e R s m args below meth c D vwCl 31 ad (wM cI cZ ad) nL ov out σ pc lv (.ref (ad 0) :: st) :=
  zs_get C (fun w h => zw_in (zw_fX4 w h)) 0 (by decide) zm_0 rfl 1 (by decide) (zw_in hlink) rfl hdg kk
theorem aM_sort (C : zs_C p s m args meth c cc nL (w0 :: zw_G) own D vwCl (tysM cI cZ) 31 ad) {i : Int32} (hin : vp_in i 64) (hdg : decode cc pc = .ok (.iaload, 1))
    (kk : zs_Z p l e R s m args below meth c D vwCl 31 ad (wM cI cZ ad) nL ov out σ (pc + 1) lv (.int (σ 0 (i.toNatClampNeg)) :: st)) : zs_Z p l e R s m args below meth c D vwCl 31 ad (wM cI cZ ad) nL ov out σ pc lv (.int i :: .ref (ad 1) :: st) :=
  zs_iald (n := 64) (f := σ 0) (cA := cI) C 1 0 (by decide) rfl rfl hin hdg kk
theorem sM_sort (C : zs_C p s m args meth c cc nL (w0 :: zw_G) own D vwCl (tysM cI cZ) 31 ad) {i x : Int32} (hin : vp_in i 64) (hdg : decode cc pc = .ok (.iastore, 1))
    (kk : zs_Z p l e R s m args below meth c D vwCl 31 ad (wM cI cZ ad) nL ov out (zs_u σ 0 (i.toNatClampNeg) x) (pc + 1) lv (st)) : zs_Z p l e R s m args below meth c D vwCl 31 ad (wM cI cZ ad) nL ov out σ pc lv (.int x :: .int i :: .ref (ad 1) :: st) :=
  zs_iast (n := 64) (f := σ 0) (cA := cI) C 1 0 rfl rfl hin (zm_set_sort _ _) hdg kk
theorem gM_order (C : zs_C p s m args meth c cc nL (w0 :: zw_G) own D vwCl (tysM cI cZ) 31 ad) (hlink : Cond.fieldLink own index (TX4 2).1 (TX4 2).2.1 (TX4 2).2.2.1 ∈ zw_G) (hdg : decode cc pc = .ok (.getfield index, 3))
    (kk : zs_Z p l e R s m args below meth c D vwCl 31 ad (wM cI cZ ad) nL ov out σ (pc + 3) lv (.ref (ad 2) :: st)) : zs_Z p l e R s m args below meth c D vwCl 31 ad (wM cI cZ ad) nL ov out σ pc lv (.ref (ad 0) :: st) :=
  zs_get C (fun w h => zw_in (zw_fX4 w h)) 0 (by decide) zm_0 rfl 2 (by decide) (zw_in hlink) rfl hdg kk
theorem aM_order (C : zs_C p s m args meth c cc nL (w0 :: zw_G) own D vwCl (tysM cI cZ) 31 ad) {i : Int32} (hin : vp_in i 64) (hdg : decode cc pc = .ok (.iaload, 1))
    (kk : zs_Z p l e R s m args below meth c D vwCl 31 ad (wM cI cZ ad) nL ov out σ (pc + 1) lv (.int (σ 1 (i.toNatClampNeg)) :: st)) : zs_Z p l e R s m args below meth c D vwCl 31 ad (wM cI cZ ad) nL ov out σ pc lv (.int i :: .ref (ad 2) :: st) :=
  zs_iald (n := 64) (f := σ 1) (cA := cI) C 2 0 (by decide) rfl rfl hin hdg kk
theorem sM_order (C : zs_C p s m args meth c cc nL (w0 :: zw_G) own D vwCl (tysM cI cZ) 31 ad) {i x : Int32} (hin : vp_in i 64) (hdg : decode cc pc = .ok (.iastore, 1))
    (kk : zs_Z p l e R s m args below meth c D vwCl 31 ad (wM cI cZ ad) nL ov out (zs_u σ 1 (i.toNatClampNeg) x) (pc + 1) lv (st)) : zs_Z p l e R s m args below meth c D vwCl 31 ad (wM cI cZ ad) nL ov out σ pc lv (.int x :: .int i :: .ref (ad 2) :: st) :=
  zs_iast (n := 64) (f := σ 1) (cA := cI) C 2 0 rfl rfl hin (zm_set_order _ _) hdg kk
theorem gM_next (C : zs_C p s m args meth c cc nL (w0 :: zw_G) own D vwCl (tysM cI cZ) 31 ad) (hlink : Cond.fieldLink own index (TX4 3).1 (TX4 3).2.1 (TX4 3).2.2.1 ∈ zw_G) (hdg : decode cc pc = .ok (.getfield index, 3))
    (kk : zs_Z p l e R s m args below meth c D vwCl 31 ad (wM cI cZ ad) nL ov out σ (pc + 3) lv (.ref (ad 3) :: st)) : zs_Z p l e R s m args below meth c D vwCl 31 ad (wM cI cZ ad) nL ov out σ pc lv (.ref (ad 0) :: st) :=
  zs_get C (fun w h => zw_in (zw_fX4 w h)) 0 (by decide) zm_0 rfl 3 (by decide) (zw_in hlink) rfl hdg kk
theorem aM_next (C : zs_C p s m args meth c cc nL (w0 :: zw_G) own D vwCl (tysM cI cZ) 31 ad) {i : Int32} (hin : vp_in i 64) (hdg : decode cc pc = .ok (.iaload, 1))
    (kk : zs_Z p l e R s m args below meth c D vwCl 31 ad (wM cI cZ ad) nL ov out σ (pc + 1) lv (.int (σ 2 (i.toNatClampNeg)) :: st)) : zs_Z p l e R s m args below meth c D vwCl 31 ad (wM cI cZ ad) nL ov out σ pc lv (.int i :: .ref (ad 3) :: st) :=
  zs_iald (n := 64) (f := σ 2) (cA := cI) C 3 0 (by decide) rfl rfl hin hdg kk
theorem sM_next (C : zs_C p s m args meth c cc nL (w0 :: zw_G) own D vwCl (tysM cI cZ) 31 ad) {i x : Int32} (hin : vp_in i 64) (hdg : decode cc pc = .ok (.iastore, 1))
    (kk : zs_Z p l e R s m args below meth c D vwCl 31 ad (wM cI cZ ad) nL ov out (zs_u σ 2 (i.toNatClampNeg) x) (pc + 1) lv (st)) : zs_Z p l e R s m args below meth c D vwCl 31 ad (wM cI cZ ad) nL ov out σ pc lv (.int x :: .int i :: .ref (ad 3) :: st) :=
  zs_iast (n := 64) (f := σ 2) (cA := cI) C 3 0 rfl rfl hin (zm_set_next _ _) hdg kk
theorem gM_mark (C : zs_C p s m args meth c cc nL (w0 :: zw_G) own D vwCl (tysM cI cZ) 31 ad) (hlink : Cond.fieldLink own index (TX4 4).1 (TX4 4).2.1 (TX4 4).2.2.1 ∈ zw_G) (hdg : decode cc pc = .ok (.getfield index, 3))
    (kk : zs_Z p l e R s m args below meth c D vwCl 31 ad (wM cI cZ ad) nL ov out σ (pc + 3) lv (.ref (ad 4) :: st)) : zs_Z p l e R s m args below meth c D vwCl 31 ad (wM cI cZ ad) nL ov out σ pc lv (.ref (ad 0) :: st) :=
  zs_get C (fun w h => zw_in (zw_fX4 w h)) 0 (by decide) zm_0 rfl 4 (by decide) (zw_in hlink) rfl hdg kk
theorem aM_mark (C : zs_C p s m args meth c cc nL (w0 :: zw_G) own D vwCl (tysM cI cZ) 31 ad) {i : Int32} (hin : vp_in i 64) (hdg : decode cc pc = .ok (.baload, 1))
    (kk : zs_Z p l e R s m args below meth c D vwCl 31 ad (wM cI cZ ad) nL ov out σ (pc + 1) lv (.int (σ 3 (i.toNatClampNeg)) :: st)) : zs_Z p l e R s m args below meth c D vwCl 31 ad (wM cI cZ ad) nL ov out σ pc lv (.int i :: .ref (ad 4) :: st) :=
  zs_zald (n := 64) (f := σ 3) (cA := cZ) C 4 1 (by decide) rfl rfl hin hdg kk
theorem sM_mark (C : zs_C p s m args meth c cc nL (w0 :: zw_G) own D vwCl (tysM cI cZ) 31 ad) {i x : Int32} (hin : vp_in i 64) (hz : zs_B x) (hdg : decode cc pc = .ok (.bastore, 1))
    (kk : zs_Z p l e R s m args below meth c D vwCl 31 ad (wM cI cZ ad) nL ov out (zs_u σ 3 (i.toNatClampNeg) x) (pc + 1) lv (st)) : zs_Z p l e R s m args below meth c D vwCl 31 ad (wM cI cZ ad) nL ov out σ pc lv (.int x :: .int i :: .ref (ad 4) :: st) :=
  zs_zast (n := 64) (f := σ 3) (cA := cZ) C 4 1 rfl rfl hin (by rw [zs_vz hz]; exact zm_set_mark _ _) hdg kk
theorem gM_keyOf (C : zs_C p s m args meth c cc nL (w0 :: zw_G) own D vwCl (tysM cI cZ) 31 ad) (hlink : Cond.fieldLink own index (TX4 5).1 (TX4 5).2.1 (TX4 5).2.2.1 ∈ zw_G) (hdg : decode cc pc = .ok (.getfield index, 3))
    (kk : zs_Z p l e R s m args below meth c D vwCl 31 ad (wM cI cZ ad) nL ov out σ (pc + 3) lv (.ref (ad 5) :: st)) : zs_Z p l e R s m args below meth c D vwCl 31 ad (wM cI cZ ad) nL ov out σ pc lv (.ref (ad 0) :: st) :=
  zs_get C (fun w h => zw_in (zw_fX4 w h)) 0 (by decide) zm_0 rfl 5 (by decide) (zw_in hlink) rfl hdg kk
theorem aM_keyOf (C : zs_C p s m args meth c cc nL (w0 :: zw_G) own D vwCl (tysM cI cZ) 31 ad) {i : Int32} (hin : vp_in i 64) (hdg : decode cc pc = .ok (.iaload, 1))
    (kk : zs_Z p l e R s m args below meth c D vwCl 31 ad (wM cI cZ ad) nL ov out σ (pc + 1) lv (.int (σ 4 (i.toNatClampNeg)) :: st)) : zs_Z p l e R s m args below meth c D vwCl 31 ad (wM cI cZ ad) nL ov out σ pc lv (.int i :: .ref (ad 5) :: st) :=
  zs_iald (n := 64) (f := σ 4) (cA := cI) C 5 0 (by decide) rfl rfl hin hdg kk
theorem sM_keyOf (C : zs_C p s m args meth c cc nL (w0 :: zw_G) own D vwCl (tysM cI cZ) 31 ad) {i x : Int32} (hin : vp_in i 64) (hdg : decode cc pc = .ok (.iastore, 1))
    (kk : zs_Z p l e R s m args below meth c D vwCl 31 ad (wM cI cZ ad) nL ov out (zs_u σ 4 (i.toNatClampNeg) x) (pc + 1) lv (st)) : zs_Z p l e R s m args below meth c D vwCl 31 ad (wM cI cZ ad) nL ov out σ pc lv (.int x :: .int i :: .ref (ad 5) :: st) :=
  zs_iast (n := 64) (f := σ 4) (cA := cI) C 5 0 rfl rfl hin (zm_set_keyOf _ _) hdg kk
theorem gM_valueOf (C : zs_C p s m args meth c cc nL (w0 :: zw_G) own D vwCl (tysM cI cZ) 31 ad) (hlink : Cond.fieldLink own index (TX4 6).1 (TX4 6).2.1 (TX4 6).2.2.1 ∈ zw_G) (hdg : decode cc pc = .ok (.getfield index, 3))
    (kk : zs_Z p l e R s m args below meth c D vwCl 31 ad (wM cI cZ ad) nL ov out σ (pc + 3) lv (.ref (ad 6) :: st)) : zs_Z p l e R s m args below meth c D vwCl 31 ad (wM cI cZ ad) nL ov out σ pc lv (.ref (ad 0) :: st) :=
  zs_get C (fun w h => zw_in (zw_fX4 w h)) 0 (by decide) zm_0 rfl 6 (by decide) (zw_in hlink) rfl hdg kk
theorem aM_valueOf (C : zs_C p s m args meth c cc nL (w0 :: zw_G) own D vwCl (tysM cI cZ) 31 ad) {i : Int32} (hin : vp_in i 64) (hdg : decode cc pc = .ok (.iaload, 1))
    (kk : zs_Z p l e R s m args below meth c D vwCl 31 ad (wM cI cZ ad) nL ov out σ (pc + 1) lv (.int (σ 5 (i.toNatClampNeg)) :: st)) : zs_Z p l e R s m args below meth c D vwCl 31 ad (wM cI cZ ad) nL ov out σ pc lv (.int i :: .ref (ad 6) :: st) :=
  zs_iald (n := 64) (f := σ 5) (cA := cI) C 6 0 (by decide) rfl rfl hin hdg kk
theorem sM_valueOf (C : zs_C p s m args meth c cc nL (w0 :: zw_G) own D vwCl (tysM cI cZ) 31 ad) {i x : Int32} (hin : vp_in i 64) (hdg : decode cc pc = .ok (.iastore, 1))
    (kk : zs_Z p l e R s m args below meth c D vwCl 31 ad (wM cI cZ ad) nL ov out (zs_u σ 5 (i.toNatClampNeg) x) (pc + 1) lv (st)) : zs_Z p l e R s m args below meth c D vwCl 31 ad (wM cI cZ ad) nL ov out σ pc lv (.int x :: .int i :: .ref (ad 6) :: st) :=
  zs_iast (n := 64) (f := σ 5) (cA := cI) C 6 0 rfl rfl hin (zm_set_valueOf _ _) hdg kk
theorem gM_born (C : zs_C p s m args meth c cc nL (w0 :: zw_G) own D vwCl (tysM cI cZ) 31 ad) (hlink : Cond.fieldLink own index (TX4 7).1 (TX4 7).2.1 (TX4 7).2.2.1 ∈ zw_G) (hdg : decode cc pc = .ok (.getfield index, 3))
    (kk : zs_Z p l e R s m args below meth c D vwCl 31 ad (wM cI cZ ad) nL ov out σ (pc + 3) lv (.ref (ad 7) :: st)) : zs_Z p l e R s m args below meth c D vwCl 31 ad (wM cI cZ ad) nL ov out σ pc lv (.ref (ad 0) :: st) :=
  zs_get C (fun w h => zw_in (zw_fX4 w h)) 0 (by decide) zm_0 rfl 7 (by decide) (zw_in hlink) rfl hdg kk
theorem aM_born (C : zs_C p s m args meth c cc nL (w0 :: zw_G) own D vwCl (tysM cI cZ) 31 ad) {i : Int32} (hin : vp_in i 64) (hdg : decode cc pc = .ok (.iaload, 1))
    (kk : zs_Z p l e R s m args below meth c D vwCl 31 ad (wM cI cZ ad) nL ov out σ (pc + 1) lv (.int (σ 6 (i.toNatClampNeg)) :: st)) : zs_Z p l e R s m args below meth c D vwCl 31 ad (wM cI cZ ad) nL ov out σ pc lv (.int i :: .ref (ad 7) :: st) :=
  zs_iald (n := 64) (f := σ 6) (cA := cI) C 7 0 (by decide) rfl rfl hin hdg kk
theorem sM_born (C : zs_C p s m args meth c cc nL (w0 :: zw_G) own D vwCl (tysM cI cZ) 31 ad) {i x : Int32} (hin : vp_in i 64) (hdg : decode cc pc = .ok (.iastore, 1))
    (kk : zs_Z p l e R s m args below meth c D vwCl 31 ad (wM cI cZ ad) nL ov out (zs_u σ 6 (i.toNatClampNeg) x) (pc + 1) lv (st)) : zs_Z p l e R s m args below meth c D vwCl 31 ad (wM cI cZ ad) nL ov out σ pc lv (.int x :: .int i :: .ref (ad 7) :: st) :=
  zs_iast (n := 64) (f := σ 6) (cA := cI) C 7 0 rfl rfl hin (zm_set_born _ _) hdg kk
theorem gM_died (C : zs_C p s m args meth c cc nL (w0 :: zw_G) own D vwCl (tysM cI cZ) 31 ad) (hlink : Cond.fieldLink own index (TX4 8).1 (TX4 8).2.1 (TX4 8).2.2.1 ∈ zw_G) (hdg : decode cc pc = .ok (.getfield index, 3))
    (kk : zs_Z p l e R s m args below meth c D vwCl 31 ad (wM cI cZ ad) nL ov out σ (pc + 3) lv (.ref (ad 8) :: st)) : zs_Z p l e R s m args below meth c D vwCl 31 ad (wM cI cZ ad) nL ov out σ pc lv (.ref (ad 0) :: st) :=
  zs_get C (fun w h => zw_in (zw_fX4 w h)) 0 (by decide) zm_0 rfl 8 (by decide) (zw_in hlink) rfl hdg kk
theorem aM_died (C : zs_C p s m args meth c cc nL (w0 :: zw_G) own D vwCl (tysM cI cZ) 31 ad) {i : Int32} (hin : vp_in i 64) (hdg : decode cc pc = .ok (.iaload, 1))
    (kk : zs_Z p l e R s m args below meth c D vwCl 31 ad (wM cI cZ ad) nL ov out σ (pc + 1) lv (.int (σ 7 (i.toNatClampNeg)) :: st)) : zs_Z p l e R s m args below meth c D vwCl 31 ad (wM cI cZ ad) nL ov out σ pc lv (.int i :: .ref (ad 8) :: st) :=
  zs_iald (n := 64) (f := σ 7) (cA := cI) C 8 0 (by decide) rfl rfl hin hdg kk
theorem sM_died (C : zs_C p s m args meth c cc nL (w0 :: zw_G) own D vwCl (tysM cI cZ) 31 ad) {i x : Int32} (hin : vp_in i 64) (hdg : decode cc pc = .ok (.iastore, 1))
    (kk : zs_Z p l e R s m args below meth c D vwCl 31 ad (wM cI cZ ad) nL ov out (zs_u σ 7 (i.toNatClampNeg) x) (pc + 1) lv (st)) : zs_Z p l e R s m args below meth c D vwCl 31 ad (wM cI cZ ad) nL ov out σ pc lv (.int x :: .int i :: .ref (ad 8) :: st) :=
  zs_iast (n := 64) (f := σ 7) (cA := cI) C 8 0 rfl rfl hin (zm_set_died _ _) hdg kk
theorem gM_buckets (C : zs_C p s m args meth c cc nL (w0 :: zw_G) own D vwCl (tysM cI cZ) 31 ad) (hlink : Cond.fieldLink own index (TX4 9).1 (TX4 9).2.1 (TX4 9).2.2.1 ∈ zw_G) (hdg : decode cc pc = .ok (.getfield index, 3))
    (kk : zs_Z p l e R s m args below meth c D vwCl 31 ad (wM cI cZ ad) nL ov out σ (pc + 3) lv (.ref (ad 9) :: st)) : zs_Z p l e R s m args below meth c D vwCl 31 ad (wM cI cZ ad) nL ov out σ pc lv (.ref (ad 0) :: st) :=
  zs_get C (fun w h => zw_in (zw_fX4 w h)) 0 (by decide) zm_0 rfl 9 (by decide) (zw_in hlink) rfl hdg kk
theorem aM_buckets (C : zs_C p s m args meth c cc nL (w0 :: zw_G) own D vwCl (tysM cI cZ) 31 ad) {i : Int32} (hin : vp_in i 16) (hdg : decode cc pc = .ok (.iaload, 1))
    (kk : zs_Z p l e R s m args below meth c D vwCl 31 ad (wM cI cZ ad) nL ov out σ (pc + 1) lv (.int (σ 31 (i.toNatClampNeg)) :: st)) : zs_Z p l e R s m args below meth c D vwCl 31 ad (wM cI cZ ad) nL ov out σ pc lv (.int i :: .ref (ad 9) :: st) :=
  zs_iald (n := 16) (f := σ 31) (cA := cI) C 9 0 (by decide) rfl rfl hin hdg kk
theorem sM_buckets (C : zs_C p s m args meth c cc nL (w0 :: zw_G) own D vwCl (tysM cI cZ) 31 ad) {i x : Int32} (hin : vp_in i 16) (hdg : decode cc pc = .ok (.iastore, 1))
    (kk : zs_Z p l e R s m args below meth c D vwCl 31 ad (wM cI cZ ad) nL ov out (zs_u σ 31 (i.toNatClampNeg) x) (pc + 1) lv (st)) : zs_Z p l e R s m args below meth c D vwCl 31 ad (wM cI cZ ad) nL ov out σ pc lv (.int x :: .int i :: .ref (ad 9) :: st) :=
  zs_iast (n := 16) (f := σ 31) (cA := cI) C 9 0 rfl rfl hin (zm_set_buckets _ _) hdg kk
theorem gM_size (C : zs_C p s m args meth c cc nL (w0 :: zw_G) own D vwCl (tysM cI cZ) 31 ad) (hlink : Cond.fieldLink own index (TX4 10).1 (TX4 10).2.1 (TX4 10).2.2.1 ∈ zw_G) (hdg : decode cc pc = .ok (.getfield index, 3))
    (kk : zs_Z p l e R s m args below meth c D vwCl 31 ad (wM cI cZ ad) nL ov out σ (pc + 3) lv (.int (σ 32 0) :: st)) : zs_Z p l e R s m args below meth c D vwCl 31 ad (wM cI cZ ad) nL ov out σ pc lv (.ref (ad 0) :: st) :=
  zs_get C (fun w h => zw_in (zw_fX4 w h)) 0 (by decide) zm_0 rfl 10 (by decide) (zw_in hlink) rfl hdg kk
theorem pM_size (C : zs_C p s m args meth c cc nL (w0 :: zw_G) own D vwCl (tysM cI cZ) 31 ad) {v : Int32} (hlink : Cond.fieldLink own index (TX4 10).1 (TX4 10).2.1 (TX4 10).2.2.1 ∈ zw_G) (hdg : decode cc pc = .ok (.putfield index, 3))
    (kk : zs_Z p l e R s m args below meth c D vwCl 31 ad (wM cI cZ ad) nL ov out (zs_u σ 32 0 v) (pc + 3) lv (st)) : zs_Z p l e R s m args below meth c D vwCl 31 ad (wM cI cZ ad) nL ov out σ pc lv (.int v :: .ref (ad 0) :: st) :=
  zs_put (ty := .int) C (fun w h => zw_in (zw_fX4 w h)) tyX4 tyX4_ok nmX4 0 zm_0 rfl 10 (by decide) (zw_in hlink) rfl (by decide +kernel) rfl rfl (Nat.le_of_ble_eq_true rfl) (zm_set_size v) hdg kk
theorem gM_count (C : zs_C p s m args meth c cc nL (w0 :: zw_G) own D vwCl (tysM cI cZ) 31 ad) (hlink : Cond.fieldLink own index (TX4 11).1 (TX4 11).2.1 (TX4 11).2.2.1 ∈ zw_G) (hdg : decode cc pc = .ok (.getfield index, 3))
    (kk : zs_Z p l e R s m args below meth c D vwCl 31 ad (wM cI cZ ad) nL ov out σ (pc + 3) lv (.int (σ 33 0) :: st)) : zs_Z p l e R s m args below meth c D vwCl 31 ad (wM cI cZ ad) nL ov out σ pc lv (.ref (ad 0) :: st) :=
  zs_get C (fun w h => zw_in (zw_fX4 w h)) 0 (by decide) zm_0 rfl 11 (by decide) (zw_in hlink) rfl hdg kk
theorem pM_count (C : zs_C p s m args meth c cc nL (w0 :: zw_G) own D vwCl (tysM cI cZ) 31 ad) {v : Int32} (hlink : Cond.fieldLink own index (TX4 11).1 (TX4 11).2.1 (TX4 11).2.2.1 ∈ zw_G) (hdg : decode cc pc = .ok (.putfield index, 3))
    (kk : zs_Z p l e R s m args below meth c D vwCl 31 ad (wM cI cZ ad) nL ov out (zs_u σ 33 0 v) (pc + 3) lv (st)) : zs_Z p l e R s m args below meth c D vwCl 31 ad (wM cI cZ ad) nL ov out σ pc lv (.int v :: .ref (ad 0) :: st) :=
  zs_put (ty := .int) C (fun w h => zw_in (zw_fX4 w h)) tyX4 tyX4_ok nmX4 0 zm_0 rfl 11 (by decide) (zw_in hlink) rfl (by decide +kernel) rfl rfl (Nat.le_of_ble_eq_true rfl) (zm_set_count v) hdg kk
theorem gM_era (C : zs_C p s m args meth c cc nL (w0 :: zw_G) own D vwCl (tysM cI cZ) 31 ad) (hlink : Cond.fieldLink own index (TX4 12).1 (TX4 12).2.1 (TX4 12).2.2.1 ∈ zw_G) (hdg : decode cc pc = .ok (.getfield index, 3))
    (kk : zs_Z p l e R s m args below meth c D vwCl 31 ad (wM cI cZ ad) nL ov out σ (pc + 3) lv (.int (σ 34 0) :: st)) : zs_Z p l e R s m args below meth c D vwCl 31 ad (wM cI cZ ad) nL ov out σ pc lv (.ref (ad 0) :: st) :=
  zs_get C (fun w h => zw_in (zw_fX4 w h)) 0 (by decide) zm_0 rfl 12 (by decide) (zw_in hlink) rfl hdg kk
theorem pM_era (C : zs_C p s m args meth c cc nL (w0 :: zw_G) own D vwCl (tysM cI cZ) 31 ad) {v : Int32} (hlink : Cond.fieldLink own index (TX4 12).1 (TX4 12).2.1 (TX4 12).2.2.1 ∈ zw_G) (hdg : decode cc pc = .ok (.putfield index, 3))
    (kk : zs_Z p l e R s m args below meth c D vwCl 31 ad (wM cI cZ ad) nL ov out (zs_u σ 34 0 v) (pc + 3) lv (st)) : zs_Z p l e R s m args below meth c D vwCl 31 ad (wM cI cZ ad) nL ov out σ pc lv (.int v :: .ref (ad 0) :: st) :=
  zs_put (ty := .int) C (fun w h => zw_in (zw_fX4 w h)) tyX4 tyX4_ok nmX4 0 zm_0 rfl 12 (by decide) (zw_in hlink) rfl (by decide +kernel) rfl rfl (Nat.le_of_ble_eq_true rfl) (zm_set_era v) hdg kk
theorem gM_place (C : zs_C p s m args meth c cc nL (w0 :: zw_G) own D vwCl (tysM cI cZ) 31 ad) (hlink : Cond.fieldLink own index (TX4 13).1 (TX4 13).2.1 (TX4 13).2.2.1 ∈ zw_G) (hdg : decode cc pc = .ok (.getfield index, 3))
    (kk : zs_Z p l e R s m args below meth c D vwCl 31 ad (wM cI cZ ad) nL ov out σ (pc + 3) lv (.ref (ad 10) :: st)) : zs_Z p l e R s m args below meth c D vwCl 31 ad (wM cI cZ ad) nL ov out σ pc lv (.ref (ad 0) :: st) :=
  zs_get C (fun w h => zw_in (zw_fX4 w h)) 0 (by decide) zm_0 rfl 13 (by decide) (zw_in hlink) rfl hdg kk
theorem aM_place (C : zs_C p s m args meth c cc nL (w0 :: zw_G) own D vwCl (tysM cI cZ) 31 ad) {i : Int32} (hin : vp_in i 4) (hdg : decode cc pc = .ok (.iaload, 1))
    (kk : zs_Z p l e R s m args below meth c D vwCl 31 ad (wM cI cZ ad) nL ov out σ (pc + 1) lv (.int (σ 10 (i.toNatClampNeg)) :: st)) : zs_Z p l e R s m args below meth c D vwCl 31 ad (wM cI cZ ad) nL ov out σ pc lv (.int i :: .ref (ad 10) :: st) :=
  zs_iald (n := 4) (f := σ 10) (cA := cI) C 10 0 (by decide) rfl rfl hin hdg kk
theorem sM_place (C : zs_C p s m args meth c cc nL (w0 :: zw_G) own D vwCl (tysM cI cZ) 31 ad) {i x : Int32} (hin : vp_in i 4) (hdg : decode cc pc = .ok (.iastore, 1))
    (kk : zs_Z p l e R s m args below meth c D vwCl 31 ad (wM cI cZ ad) nL ov out (zs_u σ 10 (i.toNatClampNeg) x) (pc + 1) lv (st)) : zs_Z p l e R s m args below meth c D vwCl 31 ad (wM cI cZ ad) nL ov out σ pc lv (.int x :: .int i :: .ref (ad 10) :: st) :=
  zs_iast (n := 4) (f := σ 10) (cA := cI) C 10 0 rfl rfl hin (zm_set_place _ _) hdg kk
theorem gM_operation (C : zs_C p s m args meth c cc nL (w0 :: zw_G) own D vwCl (tysM cI cZ) 31 ad) (hlink : Cond.fieldLink own index (TX4 14).1 (TX4 14).2.1 (TX4 14).2.2.1 ∈ zw_G) (hdg : decode cc pc = .ok (.getfield index, 3))
    (kk : zs_Z p l e R s m args below meth c D vwCl 31 ad (wM cI cZ ad) nL ov out σ (pc + 3) lv (.ref (ad 11) :: st)) : zs_Z p l e R s m args below meth c D vwCl 31 ad (wM cI cZ ad) nL ov out σ pc lv (.ref (ad 0) :: st) :=
  zs_get C (fun w h => zw_in (zw_fX4 w h)) 0 (by decide) zm_0 rfl 14 (by decide) (zw_in hlink) rfl hdg kk
theorem aM_operation (C : zs_C p s m args meth c cc nL (w0 :: zw_G) own D vwCl (tysM cI cZ) 31 ad) {i : Int32} (hin : vp_in i 4) (hdg : decode cc pc = .ok (.iaload, 1))
    (kk : zs_Z p l e R s m args below meth c D vwCl 31 ad (wM cI cZ ad) nL ov out σ (pc + 1) lv (.int (σ 11 (i.toNatClampNeg)) :: st)) : zs_Z p l e R s m args below meth c D vwCl 31 ad (wM cI cZ ad) nL ov out σ pc lv (.int i :: .ref (ad 11) :: st) :=
  zs_iald (n := 4) (f := σ 11) (cA := cI) C 11 0 (by decide) rfl rfl hin hdg kk
theorem sM_operation (C : zs_C p s m args meth c cc nL (w0 :: zw_G) own D vwCl (tysM cI cZ) 31 ad) {i x : Int32} (hin : vp_in i 4) (hdg : decode cc pc = .ok (.iastore, 1))
    (kk : zs_Z p l e R s m args below meth c D vwCl 31 ad (wM cI cZ ad) nL ov out (zs_u σ 11 (i.toNatClampNeg) x) (pc + 1) lv (st)) : zs_Z p l e R s m args below meth c D vwCl 31 ad (wM cI cZ ad) nL ov out σ pc lv (.int x :: .int i :: .ref (ad 11) :: st) :=
  zs_iast (n := 4) (f := σ 11) (cA := cI) C 11 0 rfl rfl hin (zm_set_operation _ _) hdg kk
theorem gM_key (C : zs_C p s m args meth c cc nL (w0 :: zw_G) own D vwCl (tysM cI cZ) 31 ad) (hlink : Cond.fieldLink own index (TX4 15).1 (TX4 15).2.1 (TX4 15).2.2.1 ∈ zw_G) (hdg : decode cc pc = .ok (.getfield index, 3))
    (kk : zs_Z p l e R s m args below meth c D vwCl 31 ad (wM cI cZ ad) nL ov out σ (pc + 3) lv (.ref (ad 12) :: st)) : zs_Z p l e R s m args below meth c D vwCl 31 ad (wM cI cZ ad) nL ov out σ pc lv (.ref (ad 0) :: st) :=
  zs_get C (fun w h => zw_in (zw_fX4 w h)) 0 (by decide) zm_0 rfl 15 (by decide) (zw_in hlink) rfl hdg kk
theorem aM_key (C : zs_C p s m args meth c cc nL (w0 :: zw_G) own D vwCl (tysM cI cZ) 31 ad) {i : Int32} (hin : vp_in i 4) (hdg : decode cc pc = .ok (.iaload, 1))
    (kk : zs_Z p l e R s m args below meth c D vwCl 31 ad (wM cI cZ ad) nL ov out σ (pc + 1) lv (.int (σ 12 (i.toNatClampNeg)) :: st)) : zs_Z p l e R s m args below meth c D vwCl 31 ad (wM cI cZ ad) nL ov out σ pc lv (.int i :: .ref (ad 12) :: st) :=
  zs_iald (n := 4) (f := σ 12) (cA := cI) C 12 0 (by decide) rfl rfl hin hdg kk
theorem sM_key (C : zs_C p s m args meth c cc nL (w0 :: zw_G) own D vwCl (tysM cI cZ) 31 ad) {i x : Int32} (hin : vp_in i 4) (hdg : decode cc pc = .ok (.iastore, 1))
    (kk : zs_Z p l e R s m args below meth c D vwCl 31 ad (wM cI cZ ad) nL ov out (zs_u σ 12 (i.toNatClampNeg) x) (pc + 1) lv (st)) : zs_Z p l e R s m args below meth c D vwCl 31 ad (wM cI cZ ad) nL ov out σ pc lv (.int x :: .int i :: .ref (ad 12) :: st) :=
  zs_iast (n := 4) (f := σ 12) (cA := cI) C 12 0 rfl rfl hin (zm_set_key _ _) hdg kk
theorem gM_value (C : zs_C p s m args meth c cc nL (w0 :: zw_G) own D vwCl (tysM cI cZ) 31 ad) (hlink : Cond.fieldLink own index (TX4 16).1 (TX4 16).2.1 (TX4 16).2.2.1 ∈ zw_G) (hdg : decode cc pc = .ok (.getfield index, 3))
    (kk : zs_Z p l e R s m args below meth c D vwCl 31 ad (wM cI cZ ad) nL ov out σ (pc + 3) lv (.ref (ad 13) :: st)) : zs_Z p l e R s m args below meth c D vwCl 31 ad (wM cI cZ ad) nL ov out σ pc lv (.ref (ad 0) :: st) :=
  zs_get C (fun w h => zw_in (zw_fX4 w h)) 0 (by decide) zm_0 rfl 16 (by decide) (zw_in hlink) rfl hdg kk
theorem aM_value (C : zs_C p s m args meth c cc nL (w0 :: zw_G) own D vwCl (tysM cI cZ) 31 ad) {i : Int32} (hin : vp_in i 4) (hdg : decode cc pc = .ok (.iaload, 1))
    (kk : zs_Z p l e R s m args below meth c D vwCl 31 ad (wM cI cZ ad) nL ov out σ (pc + 1) lv (.int (σ 13 (i.toNatClampNeg)) :: st)) : zs_Z p l e R s m args below meth c D vwCl 31 ad (wM cI cZ ad) nL ov out σ pc lv (.int i :: .ref (ad 13) :: st) :=
  zs_iald (n := 4) (f := σ 13) (cA := cI) C 13 0 (by decide) rfl rfl hin hdg kk
theorem sM_value (C : zs_C p s m args meth c cc nL (w0 :: zw_G) own D vwCl (tysM cI cZ) 31 ad) {i x : Int32} (hin : vp_in i 4) (hdg : decode cc pc = .ok (.iastore, 1))
    (kk : zs_Z p l e R s m args below meth c D vwCl 31 ad (wM cI cZ ad) nL ov out (zs_u σ 13 (i.toNatClampNeg) x) (pc + 1) lv (st)) : zs_Z p l e R s m args below meth c D vwCl 31 ad (wM cI cZ ad) nL ov out σ pc lv (.int x :: .int i :: .ref (ad 13) :: st) :=
  zs_iast (n := 4) (f := σ 13) (cA := cI) C 13 0 rfl rfl hin (zm_set_value _ _) hdg kk
theorem gM_low (C : zs_C p s m args meth c cc nL (w0 :: zw_G) own D vwCl (tysM cI cZ) 31 ad) (hlink : Cond.fieldLink own index (TX4 17).1 (TX4 17).2.1 (TX4 17).2.2.1 ∈ zw_G) (hdg : decode cc pc = .ok (.getfield index, 3))
    (kk : zs_Z p l e R s m args below meth c D vwCl 31 ad (wM cI cZ ad) nL ov out σ (pc + 3) lv (.ref (ad 14) :: st)) : zs_Z p l e R s m args below meth c D vwCl 31 ad (wM cI cZ ad) nL ov out σ pc lv (.ref (ad 0) :: st) :=
  zs_get C (fun w h => zw_in (zw_fX4 w h)) 0 (by decide) zm_0 rfl 17 (by decide) (zw_in hlink) rfl hdg kk
theorem aM_low (C : zs_C p s m args meth c cc nL (w0 :: zw_G) own D vwCl (tysM cI cZ) 31 ad) {i : Int32} (hin : vp_in i 4) (hdg : decode cc pc = .ok (.iaload, 1))
    (kk : zs_Z p l e R s m args below meth c D vwCl 31 ad (wM cI cZ ad) nL ov out σ (pc + 1) lv (.int (σ 14 (i.toNatClampNeg)) :: st)) : zs_Z p l e R s m args below meth c D vwCl 31 ad (wM cI cZ ad) nL ov out σ pc lv (.int i :: .ref (ad 14) :: st) :=
  zs_iald (n := 4) (f := σ 14) (cA := cI) C 14 0 (by decide) rfl rfl hin hdg kk
theorem sM_low (C : zs_C p s m args meth c cc nL (w0 :: zw_G) own D vwCl (tysM cI cZ) 31 ad) {i x : Int32} (hin : vp_in i 4) (hdg : decode cc pc = .ok (.iastore, 1))
    (kk : zs_Z p l e R s m args below meth c D vwCl 31 ad (wM cI cZ ad) nL ov out (zs_u σ 14 (i.toNatClampNeg) x) (pc + 1) lv (st)) : zs_Z p l e R s m args below meth c D vwCl 31 ad (wM cI cZ ad) nL ov out σ pc lv (.int x :: .int i :: .ref (ad 14) :: st) :=
  zs_iast (n := 4) (f := σ 14) (cA := cI) C 14 0 rfl rfl hin (zm_set_low _ _) hdg kk
theorem gM_high (C : zs_C p s m args meth c cc nL (w0 :: zw_G) own D vwCl (tysM cI cZ) 31 ad) (hlink : Cond.fieldLink own index (TX4 18).1 (TX4 18).2.1 (TX4 18).2.2.1 ∈ zw_G) (hdg : decode cc pc = .ok (.getfield index, 3))
    (kk : zs_Z p l e R s m args below meth c D vwCl 31 ad (wM cI cZ ad) nL ov out σ (pc + 3) lv (.ref (ad 15) :: st)) : zs_Z p l e R s m args below meth c D vwCl 31 ad (wM cI cZ ad) nL ov out σ pc lv (.ref (ad 0) :: st) :=
  zs_get C (fun w h => zw_in (zw_fX4 w h)) 0 (by decide) zm_0 rfl 18 (by decide) (zw_in hlink) rfl hdg kk
theorem aM_high (C : zs_C p s m args meth c cc nL (w0 :: zw_G) own D vwCl (tysM cI cZ) 31 ad) {i : Int32} (hin : vp_in i 4) (hdg : decode cc pc = .ok (.iaload, 1))
    (kk : zs_Z p l e R s m args below meth c D vwCl 31 ad (wM cI cZ ad) nL ov out σ (pc + 1) lv (.int (σ 15 (i.toNatClampNeg)) :: st)) : zs_Z p l e R s m args below meth c D vwCl 31 ad (wM cI cZ ad) nL ov out σ pc lv (.int i :: .ref (ad 15) :: st) :=
  zs_iald (n := 4) (f := σ 15) (cA := cI) C 15 0 (by decide) rfl rfl hin hdg kk
theorem sM_high (C : zs_C p s m args meth c cc nL (w0 :: zw_G) own D vwCl (tysM cI cZ) 31 ad) {i x : Int32} (hin : vp_in i 4) (hdg : decode cc pc = .ok (.iastore, 1))
    (kk : zs_Z p l e R s m args below meth c D vwCl 31 ad (wM cI cZ ad) nL ov out (zs_u σ 15 (i.toNatClampNeg) x) (pc + 1) lv (st)) : zs_Z p l e R s m args below meth c D vwCl 31 ad (wM cI cZ ad) nL ov out σ pc lv (.int x :: .int i :: .ref (ad 15) :: st) :=
  zs_iast (n := 4) (f := σ 15) (cA := cI) C 15 0 rfl rfl hin (zm_set_high _ _) hdg kk
theorem gM_at (C : zs_C p s m args meth c cc nL (w0 :: zw_G) own D vwCl (tysM cI cZ) 31 ad) (hlink : Cond.fieldLink own index (TX4 19).1 (TX4 19).2.1 (TX4 19).2.2.1 ∈ zw_G) (hdg : decode cc pc = .ok (.getfield index, 3))
    (kk : zs_Z p l e R s m args below meth c D vwCl 31 ad (wM cI cZ ad) nL ov out σ (pc + 3) lv (.ref (ad 16) :: st)) : zs_Z p l e R s m args below meth c D vwCl 31 ad (wM cI cZ ad) nL ov out σ pc lv (.ref (ad 0) :: st) :=
  zs_get C (fun w h => zw_in (zw_fX4 w h)) 0 (by decide) zm_0 rfl 19 (by decide) (zw_in hlink) rfl hdg kk
theorem aM_at (C : zs_C p s m args meth c cc nL (w0 :: zw_G) own D vwCl (tysM cI cZ) 31 ad) {i : Int32} (hin : vp_in i 4) (hdg : decode cc pc = .ok (.iaload, 1))
    (kk : zs_Z p l e R s m args below meth c D vwCl 31 ad (wM cI cZ ad) nL ov out σ (pc + 1) lv (.int (σ 16 (i.toNatClampNeg)) :: st)) : zs_Z p l e R s m args below meth c D vwCl 31 ad (wM cI cZ ad) nL ov out σ pc lv (.int i :: .ref (ad 16) :: st) :=
  zs_iald (n := 4) (f := σ 16) (cA := cI) C 16 0 (by decide) rfl rfl hin hdg kk
theorem sM_at (C : zs_C p s m args meth c cc nL (w0 :: zw_G) own D vwCl (tysM cI cZ) 31 ad) {i x : Int32} (hin : vp_in i 4) (hdg : decode cc pc = .ok (.iastore, 1))
    (kk : zs_Z p l e R s m args below meth c D vwCl 31 ad (wM cI cZ ad) nL ov out (zs_u σ 16 (i.toNatClampNeg) x) (pc + 1) lv (st)) : zs_Z p l e R s m args below meth c D vwCl 31 ad (wM cI cZ ad) nL ov out σ pc lv (.int x :: .int i :: .ref (ad 16) :: st) :=
  zs_iast (n := 4) (f := σ 16) (cA := cI) C 16 0 rfl rfl hin (zm_set_at _ _) hdg kk
theorem gM_stack (C : zs_C p s m args meth c cc nL (w0 :: zw_G) own D vwCl (tysM cI cZ) 31 ad) (hlink : Cond.fieldLink own index (TX4 20).1 (TX4 20).2.1 (TX4 20).2.2.1 ∈ zw_G) (hdg : decode cc pc = .ok (.getfield index, 3))
    (kk : zs_Z p l e R s m args below meth c D vwCl 31 ad (wM cI cZ ad) nL ov out σ (pc + 3) lv (.ref (ad 17) :: st)) : zs_Z p l e R s m args below meth c D vwCl 31 ad (wM cI cZ ad) nL ov out σ pc lv (.ref (ad 0) :: st) :=
  zs_get C (fun w h => zw_in (zw_fX4 w h)) 0 (by decide) zm_0 rfl 20 (by decide) (zw_in hlink) rfl hdg kk
theorem aM_stack (C : zs_C p s m args meth c cc nL (w0 :: zw_G) own D vwCl (tysM cI cZ) 31 ad) {i : Int32} (hin : vp_in i 64) (hdg : decode cc pc = .ok (.iaload, 1))
    (kk : zs_Z p l e R s m args below meth c D vwCl 31 ad (wM cI cZ ad) nL ov out σ (pc + 1) lv (.int (σ 27 (i.toNatClampNeg)) :: st)) : zs_Z p l e R s m args below meth c D vwCl 31 ad (wM cI cZ ad) nL ov out σ pc lv (.int i :: .ref (ad 17) :: st) :=
  zs_iald (n := 64) (f := σ 27) (cA := cI) C 17 0 (by decide) rfl rfl hin hdg kk
theorem sM_stack (C : zs_C p s m args meth c cc nL (w0 :: zw_G) own D vwCl (tysM cI cZ) 31 ad) {i x : Int32} (hin : vp_in i 64) (hdg : decode cc pc = .ok (.iastore, 1))
    (kk : zs_Z p l e R s m args below meth c D vwCl 31 ad (wM cI cZ ad) nL ov out (zs_u σ 27 (i.toNatClampNeg) x) (pc + 1) lv (st)) : zs_Z p l e R s m args below meth c D vwCl 31 ad (wM cI cZ ad) nL ov out σ pc lv (.int x :: .int i :: .ref (ad 17) :: st) :=
  zs_iast (n := 64) (f := σ 27) (cA := cI) C 17 0 rfl rfl hin (zm_set_stack _ _) hdg kk
theorem gM_depth (C : zs_C p s m args meth c cc nL (w0 :: zw_G) own D vwCl (tysM cI cZ) 31 ad) (hlink : Cond.fieldLink own index (TX4 21).1 (TX4 21).2.1 (TX4 21).2.2.1 ∈ zw_G) (hdg : decode cc pc = .ok (.getfield index, 3))
    (kk : zs_Z p l e R s m args below meth c D vwCl 31 ad (wM cI cZ ad) nL ov out σ (pc + 3) lv (.ref (ad 18) :: st)) : zs_Z p l e R s m args below meth c D vwCl 31 ad (wM cI cZ ad) nL ov out σ pc lv (.ref (ad 0) :: st) :=
  zs_get C (fun w h => zw_in (zw_fX4 w h)) 0 (by decide) zm_0 rfl 21 (by decide) (zw_in hlink) rfl hdg kk
theorem aM_depth (C : zs_C p s m args meth c cc nL (w0 :: zw_G) own D vwCl (tysM cI cZ) 31 ad) {i : Int32} (hin : vp_in i 4) (hdg : decode cc pc = .ok (.iaload, 1))
    (kk : zs_Z p l e R s m args below meth c D vwCl 31 ad (wM cI cZ ad) nL ov out σ (pc + 1) lv (.int (σ 30 (i.toNatClampNeg)) :: st)) : zs_Z p l e R s m args below meth c D vwCl 31 ad (wM cI cZ ad) nL ov out σ pc lv (.int i :: .ref (ad 18) :: st) :=
  zs_iald (n := 4) (f := σ 30) (cA := cI) C 18 0 (by decide) rfl rfl hin hdg kk
theorem sM_depth (C : zs_C p s m args meth c cc nL (w0 :: zw_G) own D vwCl (tysM cI cZ) 31 ad) {i x : Int32} (hin : vp_in i 4) (hdg : decode cc pc = .ok (.iastore, 1))
    (kk : zs_Z p l e R s m args below meth c D vwCl 31 ad (wM cI cZ ad) nL ov out (zs_u σ 30 (i.toNatClampNeg) x) (pc + 1) lv (st)) : zs_Z p l e R s m args below meth c D vwCl 31 ad (wM cI cZ ad) nL ov out σ pc lv (.int x :: .int i :: .ref (ad 18) :: st) :=
  zs_iast (n := 4) (f := σ 30) (cA := cI) C 18 0 rfl rfl hin (zm_set_depth _ _) hdg kk
theorem gM_from (C : zs_C p s m args meth c cc nL (w0 :: zw_G) own D vwCl (tysM cI cZ) 31 ad) (hlink : Cond.fieldLink own index (TX4 22).1 (TX4 22).2.1 (TX4 22).2.2.1 ∈ zw_G) (hdg : decode cc pc = .ok (.getfield index, 3))
    (kk : zs_Z p l e R s m args below meth c D vwCl 31 ad (wM cI cZ ad) nL ov out σ (pc + 3) lv (.ref (ad 19) :: st)) : zs_Z p l e R s m args below meth c D vwCl 31 ad (wM cI cZ ad) nL ov out σ pc lv (.ref (ad 0) :: st) :=
  zs_get C (fun w h => zw_in (zw_fX4 w h)) 0 (by decide) zm_0 rfl 22 (by decide) (zw_in hlink) rfl hdg kk
theorem aM_from (C : zs_C p s m args meth c cc nL (w0 :: zw_G) own D vwCl (tysM cI cZ) 31 ad) {i : Int32} (hin : vp_in i 4) (hdg : decode cc pc = .ok (.iaload, 1))
    (kk : zs_Z p l e R s m args below meth c D vwCl 31 ad (wM cI cZ ad) nL ov out σ (pc + 1) lv (.int (σ 17 (i.toNatClampNeg)) :: st)) : zs_Z p l e R s m args below meth c D vwCl 31 ad (wM cI cZ ad) nL ov out σ pc lv (.int i :: .ref (ad 19) :: st) :=
  zs_iald (n := 4) (f := σ 17) (cA := cI) C 19 0 (by decide) rfl rfl hin hdg kk
theorem sM_from (C : zs_C p s m args meth c cc nL (w0 :: zw_G) own D vwCl (tysM cI cZ) 31 ad) {i x : Int32} (hin : vp_in i 4) (hdg : decode cc pc = .ok (.iastore, 1))
    (kk : zs_Z p l e R s m args below meth c D vwCl 31 ad (wM cI cZ ad) nL ov out (zs_u σ 17 (i.toNatClampNeg) x) (pc + 1) lv (st)) : zs_Z p l e R s m args below meth c D vwCl 31 ad (wM cI cZ ad) nL ov out σ pc lv (.int x :: .int i :: .ref (ad 19) :: st) :=
  zs_iast (n := 4) (f := σ 17) (cA := cI) C 19 0 rfl rfl hin (zm_set_from _ _) hdg kk
theorem gM_prev (C : zs_C p s m args meth c cc nL (w0 :: zw_G) own D vwCl (tysM cI cZ) 31 ad) (hlink : Cond.fieldLink own index (TX4 23).1 (TX4 23).2.1 (TX4 23).2.2.1 ∈ zw_G) (hdg : decode cc pc = .ok (.getfield index, 3))
    (kk : zs_Z p l e R s m args below meth c D vwCl 31 ad (wM cI cZ ad) nL ov out σ (pc + 3) lv (.ref (ad 20) :: st)) : zs_Z p l e R s m args below meth c D vwCl 31 ad (wM cI cZ ad) nL ov out σ pc lv (.ref (ad 0) :: st) :=
  zs_get C (fun w h => zw_in (zw_fX4 w h)) 0 (by decide) zm_0 rfl 23 (by decide) (zw_in hlink) rfl hdg kk
theorem aM_prev (C : zs_C p s m args meth c cc nL (w0 :: zw_G) own D vwCl (tysM cI cZ) 31 ad) {i : Int32} (hin : vp_in i 4) (hdg : decode cc pc = .ok (.iaload, 1))
    (kk : zs_Z p l e R s m args below meth c D vwCl 31 ad (wM cI cZ ad) nL ov out σ (pc + 1) lv (.int (σ 18 (i.toNatClampNeg)) :: st)) : zs_Z p l e R s m args below meth c D vwCl 31 ad (wM cI cZ ad) nL ov out σ pc lv (.int i :: .ref (ad 20) :: st) :=
  zs_iald (n := 4) (f := σ 18) (cA := cI) C 20 0 (by decide) rfl rfl hin hdg kk
theorem sM_prev (C : zs_C p s m args meth c cc nL (w0 :: zw_G) own D vwCl (tysM cI cZ) 31 ad) {i x : Int32} (hin : vp_in i 4) (hdg : decode cc pc = .ok (.iastore, 1))
    (kk : zs_Z p l e R s m args below meth c D vwCl 31 ad (wM cI cZ ad) nL ov out (zs_u σ 18 (i.toNatClampNeg) x) (pc + 1) lv (st)) : zs_Z p l e R s m args below meth c D vwCl 31 ad (wM cI cZ ad) nL ov out σ pc lv (.int x :: .int i :: .ref (ad 20) :: st) :=
  zs_iast (n := 4) (f := σ 18) (cA := cI) C 20 0 rfl rfl hin (zm_set_prev _ _) hdg kk
theorem gM_cur (C : zs_C p s m args meth c cc nL (w0 :: zw_G) own D vwCl (tysM cI cZ) 31 ad) (hlink : Cond.fieldLink own index (TX4 24).1 (TX4 24).2.1 (TX4 24).2.2.1 ∈ zw_G) (hdg : decode cc pc = .ok (.getfield index, 3))
    (kk : zs_Z p l e R s m args below meth c D vwCl 31 ad (wM cI cZ ad) nL ov out σ (pc + 3) lv (.ref (ad 21) :: st)) : zs_Z p l e R s m args below meth c D vwCl 31 ad (wM cI cZ ad) nL ov out σ pc lv (.ref (ad 0) :: st) :=
  zs_get C (fun w h => zw_in (zw_fX4 w h)) 0 (by decide) zm_0 rfl 24 (by decide) (zw_in hlink) rfl hdg kk
theorem aM_cur (C : zs_C p s m args meth c cc nL (w0 :: zw_G) own D vwCl (tysM cI cZ) 31 ad) {i : Int32} (hin : vp_in i 4) (hdg : decode cc pc = .ok (.iaload, 1))
    (kk : zs_Z p l e R s m args below meth c D vwCl 31 ad (wM cI cZ ad) nL ov out σ (pc + 1) lv (.int (σ 19 (i.toNatClampNeg)) :: st)) : zs_Z p l e R s m args below meth c D vwCl 31 ad (wM cI cZ ad) nL ov out σ pc lv (.int i :: .ref (ad 21) :: st) :=
  zs_iald (n := 4) (f := σ 19) (cA := cI) C 21 0 (by decide) rfl rfl hin hdg kk
theorem sM_cur (C : zs_C p s m args meth c cc nL (w0 :: zw_G) own D vwCl (tysM cI cZ) 31 ad) {i x : Int32} (hin : vp_in i 4) (hdg : decode cc pc = .ok (.iastore, 1))
    (kk : zs_Z p l e R s m args below meth c D vwCl 31 ad (wM cI cZ ad) nL ov out (zs_u σ 19 (i.toNatClampNeg) x) (pc + 1) lv (st)) : zs_Z p l e R s m args below meth c D vwCl 31 ad (wM cI cZ ad) nL ov out σ pc lv (.int x :: .int i :: .ref (ad 21) :: st) :=
  zs_iast (n := 4) (f := σ 19) (cA := cI) C 21 0 rfl rfl hin (zm_set_cur _ _) hdg kk
theorem gM_nxt (C : zs_C p s m args meth c cc nL (w0 :: zw_G) own D vwCl (tysM cI cZ) 31 ad) (hlink : Cond.fieldLink own index (TX4 25).1 (TX4 25).2.1 (TX4 25).2.2.1 ∈ zw_G) (hdg : decode cc pc = .ok (.getfield index, 3))
    (kk : zs_Z p l e R s m args below meth c D vwCl 31 ad (wM cI cZ ad) nL ov out σ (pc + 3) lv (.ref (ad 22) :: st)) : zs_Z p l e R s m args below meth c D vwCl 31 ad (wM cI cZ ad) nL ov out σ pc lv (.ref (ad 0) :: st) :=
  zs_get C (fun w h => zw_in (zw_fX4 w h)) 0 (by decide) zm_0 rfl 25 (by decide) (zw_in hlink) rfl hdg kk
theorem aM_nxt (C : zs_C p s m args meth c cc nL (w0 :: zw_G) own D vwCl (tysM cI cZ) 31 ad) {i : Int32} (hin : vp_in i 4) (hdg : decode cc pc = .ok (.iaload, 1))
    (kk : zs_Z p l e R s m args below meth c D vwCl 31 ad (wM cI cZ ad) nL ov out σ (pc + 1) lv (.int (σ 20 (i.toNatClampNeg)) :: st)) : zs_Z p l e R s m args below meth c D vwCl 31 ad (wM cI cZ ad) nL ov out σ pc lv (.int i :: .ref (ad 22) :: st) :=
  zs_iald (n := 4) (f := σ 20) (cA := cI) C 22 0 (by decide) rfl rfl hin hdg kk
theorem sM_nxt (C : zs_C p s m args meth c cc nL (w0 :: zw_G) own D vwCl (tysM cI cZ) 31 ad) {i x : Int32} (hin : vp_in i 4) (hdg : decode cc pc = .ok (.iastore, 1))
    (kk : zs_Z p l e R s m args below meth c D vwCl 31 ad (wM cI cZ ad) nL ov out (zs_u σ 20 (i.toNatClampNeg) x) (pc + 1) lv (st)) : zs_Z p l e R s m args below meth c D vwCl 31 ad (wM cI cZ ad) nL ov out σ pc lv (.int x :: .int i :: .ref (ad 22) :: st) :=
  zs_iast (n := 4) (f := σ 20) (cA := cI) C 22 0 rfl rfl hin (zm_set_nxt _ _) hdg kk
theorem gM_marked (C : zs_C p s m args meth c cc nL (w0 :: zw_G) own D vwCl (tysM cI cZ) 31 ad) (hlink : Cond.fieldLink own index (TX4 26).1 (TX4 26).2.1 (TX4 26).2.2.1 ∈ zw_G) (hdg : decode cc pc = .ok (.getfield index, 3))
    (kk : zs_Z p l e R s m args below meth c D vwCl 31 ad (wM cI cZ ad) nL ov out σ (pc + 3) lv (.ref (ad 23) :: st)) : zs_Z p l e R s m args below meth c D vwCl 31 ad (wM cI cZ ad) nL ov out σ pc lv (.ref (ad 0) :: st) :=
  zs_get C (fun w h => zw_in (zw_fX4 w h)) 0 (by decide) zm_0 rfl 26 (by decide) (zw_in hlink) rfl hdg kk
theorem aM_marked (C : zs_C p s m args meth c cc nL (w0 :: zw_G) own D vwCl (tysM cI cZ) 31 ad) {i : Int32} (hin : vp_in i 4) (hdg : decode cc pc = .ok (.baload, 1))
    (kk : zs_Z p l e R s m args below meth c D vwCl 31 ad (wM cI cZ ad) nL ov out σ (pc + 1) lv (.int (σ 21 (i.toNatClampNeg)) :: st)) : zs_Z p l e R s m args below meth c D vwCl 31 ad (wM cI cZ ad) nL ov out σ pc lv (.int i :: .ref (ad 23) :: st) :=
  zs_zald (n := 4) (f := σ 21) (cA := cZ) C 23 1 (by decide) rfl rfl hin hdg kk
theorem sM_marked (C : zs_C p s m args meth c cc nL (w0 :: zw_G) own D vwCl (tysM cI cZ) 31 ad) {i x : Int32} (hin : vp_in i 4) (hz : zs_B x) (hdg : decode cc pc = .ok (.bastore, 1))
    (kk : zs_Z p l e R s m args below meth c D vwCl 31 ad (wM cI cZ ad) nL ov out (zs_u σ 21 (i.toNatClampNeg) x) (pc + 1) lv (st)) : zs_Z p l e R s m args below meth c D vwCl 31 ad (wM cI cZ ad) nL ov out σ pc lv (.int x :: .int i :: .ref (ad 23) :: st) :=
  zs_zast (n := 4) (f := σ 21) (cA := cZ) C 23 1 rfl rfl hin (by rw [zs_vz hz]; exact zm_set_marked _ _) hdg kk
theorem gM_own (C : zs_C p s m args meth c cc nL (w0 :: zw_G) own D vwCl (tysM cI cZ) 31 ad) (hlink : Cond.fieldLink own index (TX4 27).1 (TX4 27).2.1 (TX4 27).2.2.1 ∈ zw_G) (hdg : decode cc pc = .ok (.getfield index, 3))
    (kk : zs_Z p l e R s m args below meth c D vwCl 31 ad (wM cI cZ ad) nL ov out σ (pc + 3) lv (.ref (ad 24) :: st)) : zs_Z p l e R s m args below meth c D vwCl 31 ad (wM cI cZ ad) nL ov out σ pc lv (.ref (ad 0) :: st) :=
  zs_get C (fun w h => zw_in (zw_fX4 w h)) 0 (by decide) zm_0 rfl 27 (by decide) (zw_in hlink) rfl hdg kk
theorem aM_own (C : zs_C p s m args meth c cc nL (w0 :: zw_G) own D vwCl (tysM cI cZ) 31 ad) {i : Int32} (hin : vp_in i 4) (hdg : decode cc pc = .ok (.iaload, 1))
    (kk : zs_Z p l e R s m args below meth c D vwCl 31 ad (wM cI cZ ad) nL ov out σ (pc + 1) lv (.int (σ 22 (i.toNatClampNeg)) :: st)) : zs_Z p l e R s m args below meth c D vwCl 31 ad (wM cI cZ ad) nL ov out σ pc lv (.int i :: .ref (ad 24) :: st) :=
  zs_iald (n := 4) (f := σ 22) (cA := cI) C 24 0 (by decide) rfl rfl hin hdg kk
theorem sM_own (C : zs_C p s m args meth c cc nL (w0 :: zw_G) own D vwCl (tysM cI cZ) 31 ad) {i x : Int32} (hin : vp_in i 4) (hdg : decode cc pc = .ok (.iastore, 1))
    (kk : zs_Z p l e R s m args below meth c D vwCl 31 ad (wM cI cZ ad) nL ov out (zs_u σ 22 (i.toNatClampNeg) x) (pc + 1) lv (st)) : zs_Z p l e R s m args below meth c D vwCl 31 ad (wM cI cZ ad) nL ov out σ pc lv (.int x :: .int i :: .ref (ad 24) :: st) :=
  zs_iast (n := 4) (f := σ 22) (cA := cI) C 24 0 rfl rfl hin (zm_set_own _ _) hdg kk
theorem gM_given (C : zs_C p s m args meth c cc nL (w0 :: zw_G) own D vwCl (tysM cI cZ) 31 ad) (hlink : Cond.fieldLink own index (TX4 28).1 (TX4 28).2.1 (TX4 28).2.2.1 ∈ zw_G) (hdg : decode cc pc = .ok (.getfield index, 3))
    (kk : zs_Z p l e R s m args below meth c D vwCl 31 ad (wM cI cZ ad) nL ov out σ (pc + 3) lv (.ref (ad 25) :: st)) : zs_Z p l e R s m args below meth c D vwCl 31 ad (wM cI cZ ad) nL ov out σ pc lv (.ref (ad 0) :: st) :=
  zs_get C (fun w h => zw_in (zw_fX4 w h)) 0 (by decide) zm_0 rfl 28 (by decide) (zw_in hlink) rfl hdg kk
theorem aM_given (C : zs_C p s m args meth c cc nL (w0 :: zw_G) own D vwCl (tysM cI cZ) 31 ad) {i : Int32} (hin : vp_in i 4) (hdg : decode cc pc = .ok (.iaload, 1))
    (kk : zs_Z p l e R s m args below meth c D vwCl 31 ad (wM cI cZ ad) nL ov out σ (pc + 1) lv (.int (σ 23 (i.toNatClampNeg)) :: st)) : zs_Z p l e R s m args below meth c D vwCl 31 ad (wM cI cZ ad) nL ov out σ pc lv (.int i :: .ref (ad 25) :: st) :=
  zs_iald (n := 4) (f := σ 23) (cA := cI) C 25 0 (by decide) rfl rfl hin hdg kk
theorem sM_given (C : zs_C p s m args meth c cc nL (w0 :: zw_G) own D vwCl (tysM cI cZ) 31 ad) {i x : Int32} (hin : vp_in i 4) (hdg : decode cc pc = .ok (.iastore, 1))
    (kk : zs_Z p l e R s m args below meth c D vwCl 31 ad (wM cI cZ ad) nL ov out (zs_u σ 23 (i.toNatClampNeg) x) (pc + 1) lv (st)) : zs_Z p l e R s m args below meth c D vwCl 31 ad (wM cI cZ ad) nL ov out σ pc lv (.int x :: .int i :: .ref (ad 25) :: st) :=
  zs_iast (n := 4) (f := σ 23) (cA := cI) C 25 0 rfl rfl hin (zm_set_given _ _) hdg kk
theorem gM_cleans (C : zs_C p s m args meth c cc nL (w0 :: zw_G) own D vwCl (tysM cI cZ) 31 ad) (hlink : Cond.fieldLink own index (TX4 29).1 (TX4 29).2.1 (TX4 29).2.2.1 ∈ zw_G) (hdg : decode cc pc = .ok (.getfield index, 3))
    (kk : zs_Z p l e R s m args below meth c D vwCl 31 ad (wM cI cZ ad) nL ov out σ (pc + 3) lv (.ref (ad 26) :: st)) : zs_Z p l e R s m args below meth c D vwCl 31 ad (wM cI cZ ad) nL ov out σ pc lv (.ref (ad 0) :: st) :=
  zs_get C (fun w h => zw_in (zw_fX4 w h)) 0 (by decide) zm_0 rfl 29 (by decide) (zw_in hlink) rfl hdg kk
theorem aM_cleans (C : zs_C p s m args meth c cc nL (w0 :: zw_G) own D vwCl (tysM cI cZ) 31 ad) {i : Int32} (hin : vp_in i 4) (hdg : decode cc pc = .ok (.baload, 1))
    (kk : zs_Z p l e R s m args below meth c D vwCl 31 ad (wM cI cZ ad) nL ov out σ (pc + 1) lv (.int (σ 24 (i.toNatClampNeg)) :: st)) : zs_Z p l e R s m args below meth c D vwCl 31 ad (wM cI cZ ad) nL ov out σ pc lv (.int i :: .ref (ad 26) :: st) :=
  zs_zald (n := 4) (f := σ 24) (cA := cZ) C 26 1 (by decide) rfl rfl hin hdg kk
theorem sM_cleans (C : zs_C p s m args meth c cc nL (w0 :: zw_G) own D vwCl (tysM cI cZ) 31 ad) {i x : Int32} (hin : vp_in i 4) (hz : zs_B x) (hdg : decode cc pc = .ok (.bastore, 1))
    (kk : zs_Z p l e R s m args below meth c D vwCl 31 ad (wM cI cZ ad) nL ov out (zs_u σ 24 (i.toNatClampNeg) x) (pc + 1) lv (st)) : zs_Z p l e R s m args below meth c D vwCl 31 ad (wM cI cZ ad) nL ov out σ pc lv (.int x :: .int i :: .ref (ad 26) :: st) :=
  zs_zast (n := 4) (f := σ 24) (cA := cZ) C 26 1 rfl rfl hin (by rw [zs_vz hz]; exact zm_set_cleans _ _) hdg kk
theorem gM_gone (C : zs_C p s m args meth c cc nL (w0 :: zw_G) own D vwCl (tysM cI cZ) 31 ad) (hlink : Cond.fieldLink own index (TX4 30).1 (TX4 30).2.1 (TX4 30).2.2.1 ∈ zw_G) (hdg : decode cc pc = .ok (.getfield index, 3))
    (kk : zs_Z p l e R s m args below meth c D vwCl 31 ad (wM cI cZ ad) nL ov out σ (pc + 3) lv (.ref (ad 27) :: st)) : zs_Z p l e R s m args below meth c D vwCl 31 ad (wM cI cZ ad) nL ov out σ pc lv (.ref (ad 0) :: st) :=
  zs_get C (fun w h => zw_in (zw_fX4 w h)) 0 (by decide) zm_0 rfl 30 (by decide) (zw_in hlink) rfl hdg kk
theorem aM_gone (C : zs_C p s m args meth c cc nL (w0 :: zw_G) own D vwCl (tysM cI cZ) 31 ad) {i : Int32} (hin : vp_in i 4) (hdg : decode cc pc = .ok (.iaload, 1))
    (kk : zs_Z p l e R s m args below meth c D vwCl 31 ad (wM cI cZ ad) nL ov out σ (pc + 1) lv (.int (σ 25 (i.toNatClampNeg)) :: st)) : zs_Z p l e R s m args below meth c D vwCl 31 ad (wM cI cZ ad) nL ov out σ pc lv (.int i :: .ref (ad 27) :: st) :=
  zs_iald (n := 4) (f := σ 25) (cA := cI) C 27 0 (by decide) rfl rfl hin hdg kk
theorem sM_gone (C : zs_C p s m args meth c cc nL (w0 :: zw_G) own D vwCl (tysM cI cZ) 31 ad) {i x : Int32} (hin : vp_in i 4) (hdg : decode cc pc = .ok (.iastore, 1))
    (kk : zs_Z p l e R s m args below meth c D vwCl 31 ad (wM cI cZ ad) nL ov out (zs_u σ 25 (i.toNatClampNeg) x) (pc + 1) lv (st)) : zs_Z p l e R s m args below meth c D vwCl 31 ad (wM cI cZ ad) nL ov out σ pc lv (.int x :: .int i :: .ref (ad 27) :: st) :=
  zs_iast (n := 4) (f := σ 25) (cA := cI) C 27 0 rfl rfl hin (zm_set_gone _ _) hdg kk
theorem gM_row (C : zs_C p s m args meth c cc nL (w0 :: zw_G) own D vwCl (tysM cI cZ) 31 ad) (hlink : Cond.fieldLink own index (TX4 31).1 (TX4 31).2.1 (TX4 31).2.2.1 ∈ zw_G) (hdg : decode cc pc = .ok (.getfield index, 3))
    (kk : zs_Z p l e R s m args below meth c D vwCl 31 ad (wM cI cZ ad) nL ov out σ (pc + 3) lv (.ref (ad 28) :: st)) : zs_Z p l e R s m args below meth c D vwCl 31 ad (wM cI cZ ad) nL ov out σ pc lv (.ref (ad 0) :: st) :=
  zs_get C (fun w h => zw_in (zw_fX4 w h)) 0 (by decide) zm_0 rfl 31 (by decide) (zw_in hlink) rfl hdg kk
theorem aM_row (C : zs_C p s m args meth c cc nL (w0 :: zw_G) own D vwCl (tysM cI cZ) 31 ad) {i : Int32} (hin : vp_in i 256) (hdg : decode cc pc = .ok (.iaload, 1))
    (kk : zs_Z p l e R s m args below meth c D vwCl 31 ad (wM cI cZ ad) nL ov out σ (pc + 1) lv (.int (σ 28 (i.toNatClampNeg)) :: st)) : zs_Z p l e R s m args below meth c D vwCl 31 ad (wM cI cZ ad) nL ov out σ pc lv (.int i :: .ref (ad 28) :: st) :=
  zs_iald (n := 256) (f := σ 28) (cA := cI) C 28 0 (by decide) rfl rfl hin hdg kk
theorem sM_row (C : zs_C p s m args meth c cc nL (w0 :: zw_G) own D vwCl (tysM cI cZ) 31 ad) {i x : Int32} (hin : vp_in i 256) (hdg : decode cc pc = .ok (.iastore, 1))
    (kk : zs_Z p l e R s m args below meth c D vwCl 31 ad (wM cI cZ ad) nL ov out (zs_u σ 28 (i.toNatClampNeg) x) (pc + 1) lv (st)) : zs_Z p l e R s m args below meth c D vwCl 31 ad (wM cI cZ ad) nL ov out σ pc lv (.int x :: .int i :: .ref (ad 28) :: st) :=
  zs_iast (n := 256) (f := σ 28) (cA := cI) C 28 0 rfl rfl hin (zm_set_row _ _) hdg kk
theorem gM_rows (C : zs_C p s m args meth c cc nL (w0 :: zw_G) own D vwCl (tysM cI cZ) 31 ad) (hlink : Cond.fieldLink own index (TX4 32).1 (TX4 32).2.1 (TX4 32).2.2.1 ∈ zw_G) (hdg : decode cc pc = .ok (.getfield index, 3))
    (kk : zs_Z p l e R s m args below meth c D vwCl 31 ad (wM cI cZ ad) nL ov out σ (pc + 3) lv (.ref (ad 29) :: st)) : zs_Z p l e R s m args below meth c D vwCl 31 ad (wM cI cZ ad) nL ov out σ pc lv (.ref (ad 0) :: st) :=
  zs_get C (fun w h => zw_in (zw_fX4 w h)) 0 (by decide) zm_0 rfl 32 (by decide) (zw_in hlink) rfl hdg kk
theorem aM_rows (C : zs_C p s m args meth c cc nL (w0 :: zw_G) own D vwCl (tysM cI cZ) 31 ad) {i : Int32} (hin : vp_in i 4) (hdg : decode cc pc = .ok (.iaload, 1))
    (kk : zs_Z p l e R s m args below meth c D vwCl 31 ad (wM cI cZ ad) nL ov out σ (pc + 1) lv (.int (σ 29 (i.toNatClampNeg)) :: st)) : zs_Z p l e R s m args below meth c D vwCl 31 ad (wM cI cZ ad) nL ov out σ pc lv (.int i :: .ref (ad 29) :: st) :=
  zs_iald (n := 4) (f := σ 29) (cA := cI) C 29 0 (by decide) rfl rfl hin hdg kk
theorem sM_rows (C : zs_C p s m args meth c cc nL (w0 :: zw_G) own D vwCl (tysM cI cZ) 31 ad) {i x : Int32} (hin : vp_in i 4) (hdg : decode cc pc = .ok (.iastore, 1))
    (kk : zs_Z p l e R s m args below meth c D vwCl 31 ad (wM cI cZ ad) nL ov out (zs_u σ 29 (i.toNatClampNeg) x) (pc + 1) lv (st)) : zs_Z p l e R s m args below meth c D vwCl 31 ad (wM cI cZ ad) nL ov out σ pc lv (.int x :: .int i :: .ref (ad 29) :: st) :=
  zs_iast (n := 4) (f := σ 29) (cA := cI) C 29 0 rfl rfl hin (zm_set_rows _ _) hdg kk
theorem gM_results (C : zs_C p s m args meth c cc nL (w0 :: zw_G) own D vwCl (tysM cI cZ) 31 ad) (hlink : Cond.fieldLink own index (TX4 33).1 (TX4 33).2.1 (TX4 33).2.2.1 ∈ zw_G) (hdg : decode cc pc = .ok (.getfield index, 3))
    (kk : zs_Z p l e R s m args below meth c D vwCl 31 ad (wM cI cZ ad) nL ov out σ (pc + 3) lv (.ref (ad 30) :: st)) : zs_Z p l e R s m args below meth c D vwCl 31 ad (wM cI cZ ad) nL ov out σ pc lv (.ref (ad 0) :: st) :=
  zs_get C (fun w h => zw_in (zw_fX4 w h)) 0 (by decide) zm_0 rfl 33 (by decide) (zw_in hlink) rfl hdg kk
theorem aM_results (C : zs_C p s m args meth c cc nL (w0 :: zw_G) own D vwCl (tysM cI cZ) 31 ad) {i : Int32} (hin : vp_in i 4) (hdg : decode cc pc = .ok (.iaload, 1))
    (kk : zs_Z p l e R s m args below meth c D vwCl 31 ad (wM cI cZ ad) nL ov out σ (pc + 1) lv (.int (σ 26 (i.toNatClampNeg)) :: st)) : zs_Z p l e R s m args below meth c D vwCl 31 ad (wM cI cZ ad) nL ov out σ pc lv (.int i :: .ref (ad 30) :: st) :=
  zs_iald (n := 4) (f := σ 26) (cA := cI) C 30 0 (by decide) rfl rfl hin hdg kk
theorem sM_results (C : zs_C p s m args meth c cc nL (w0 :: zw_G) own D vwCl (tysM cI cZ) 31 ad) {i x : Int32} (hin : vp_in i 4) (hdg : decode cc pc = .ok (.iastore, 1))
    (kk : zs_Z p l e R s m args below meth c D vwCl 31 ad (wM cI cZ ad) nL ov out (zs_u σ 26 (i.toNatClampNeg) x) (pc + 1) lv (st)) : zs_Z p l e R s m args below meth c D vwCl 31 ad (wM cI cZ ad) nL ov out σ pc lv (.int x :: .int i :: .ref (ad 30) :: st) :=
  zs_iast (n := 4) (f := σ 26) (cA := cI) C 30 0 rfl rfl hin (zm_set_results _ _) hdg kk
end ZMR
