/-! SplitStore(): the cells in the order in which they are made -/
abbrev zb_node : List Value := [.int 0, .int 0, .int (-1), .int 0, .int (-1), .int 0, .int 0, .int 0]
abbrev zb_work (a b : Nat) : List Value := [.int 0, .int 0, .int 0, .int 0, .int 0, .int 0, .int 0, .ref a, .int (-1), .int (-1), .int (-1), .int (-1), .int 0, .int (-1), .int (-1), .int 0, .int (-1), .int (-1), .ref b]
def wB (cI cN cW : ClassId) (b : Nat → Nat) (f g : Nat → Option Nat) (h : Nat → Int32) (i : Nat) : va_E :=
  if i = 0 then .inr (3, [.ref (b 1), .ref (b 2), .ref (b 3), .int 1, .int 0, .int 1])
  else if i = 1 then .inl (cN, 64, .inr (.inr (.inr (.inr f))))
  else if i = 2 then .inl (cW, 4, .inr (.inr (.inr (.inr g))))
  else if i = 3 then .inl (cI, 16, .inl h)
  else if i < 68 then .inr (0, zb_node)
  else if (i - 68) % 5 = 0 then .inr (2, zb_work (b (i + 1)) (b (i + 3)))
  else if (i - 68) % 5 = 1 then .inr (1, [.ref (b (i + 1)), .int 0])
  else if (i - 68) % 5 = 2 then .inl (cI, 4, .inl (fun _ => 0))
  else if (i - 68) % 5 = 3 then .inr (1, [.ref (b (i + 1)), .int 0])
  else .inl (cI, 64, .inl (fun _ => 0))
def zb_W (cI cN cW : ClassId) (n : Nat) (ws : va_W) (b : Nat → Nat) (f g : Nat → Option Nat) (h : Nat → Int32) : Prop := ws.length = n ∧ ∀ i, i < n → ws[i]? = some (b i, wB cI cN cW b f g h i)
section ZB
variable {cI cN cW : ClassId} {n : Nat} {ws : va_W} {b : Nat → Nat} {f g : Nat → Option Nat} {h : Nat → Int32}
theorem zb_start {h0 a1 a2 a3 : Nat} : zb_W cI cN cW 4 [(h0, .inr (3, [.ref a1, .ref a2, .ref a3, .int 1, .int 0, .int 1])), (a1, .inl (cN, 64, .inr (.inr (.inr (.inr (fun _ => none)))))), (a2, .inl (cW, 4, .inr (.inr (.inr (.inr (fun _ => none)))))), (a3, .inl (cI, 16, .inl (fun _ => 0)))] (fun i => if i = 0 then h0 else if i = 1 then a1 else if i = 2 then a2 else a3) (fun _ => none) (fun _ => none) (fun _ => 0) := by
  refine ⟨rfl, fun i hi => ?_⟩
  rcases (show i = 0 ∨ i = 1 ∨ i = 2 ∨ i = 3 by omega) with rfl | rfl | rfl | rfl <;> rfl
theorem zb_addNode {j q : Nat} (H : zb_W cI cN cW (4 + j) ws b f g h) (hj : j < 64) : zb_W cI cN cW (4 + (j + 1)) ((ws ++ ([(q, .inr (0, zb_node))] : va_W)).set 1 (b 1, .inl (cN, 64, .inr (.inr (.inr (.inr (va_up f j (some q)))))))) (va_up b (4 + j) q) (va_up f j (some q)) g h := by
  obtain ⟨hl, hw⟩ := H
  refine ⟨by simp [hl]; omega, fun i hi => ?_⟩
  by_cases h1 : i = 1
  · subst h1
    rw [List.getElem?_set_self (by simp; omega)]
    simp only [wB, va_up]
    rw [if_neg (by omega)]
    rfl
  · rw [List.getElem?_set_ne (Ne.symm h1)]
    by_cases h2 : i < 4 + j
    · rw [List.getElem?_append_left (by omega), hw i h2]
      simp only [wB, va_up]
      rw [if_neg (show ¬ i = 4 + j by omega), if_neg (show ¬ 1 = 4 + j by omega), if_neg (show ¬ 2 = 4 + j by omega), if_neg (show ¬ 3 = 4 + j by omega), if_neg h1, if_pos (show i < 68 by omega), if_neg h1, if_pos (show i < 68 by omega)]
    · have h3 : i = 4 + j := by omega
      subst h3
      rw [List.getElem?_append_right (by omega), hl, Nat.sub_self]
      have e : va_up b (4 + j) q (4 + j) = q := by simp [va_up]
      rw [e]
      unfold wB
      rw [if_neg (by omega), if_neg (by omega), if_neg (by omega), if_neg (by omega), if_pos (by omega)]
      rfl
abbrev zb_5 (cI : ClassId) (q0 q1 q2 q3 q4 : Nat) : va_W := [(q0, .inr (2, zb_work q1 q3)), (q1, .inr (1, [.ref q2, .int 0])), (q2, .inl (cI, 4, .inl (fun _ => 0))), (q3, .inr (1, [.ref q4, .int 0])), (q4, .inl (cI, 64, .inl (fun _ => 0)))]
/-- the addresses behind a fourth part more -/
def zb_up5 (b : Nat → Nat) (n q0 q1 q2 q3 q4 : Nat) : Nat → Nat := fun i => if i = n then q0 else if i = n + 1 then q1 else if i = n + 2 then q2 else if i = n + 3 then q3 else if i = n + 4 then q4 else b i
theorem zb_up5_lt {b : Nat → Nat} {n q0 q1 q2 q3 q4 i : Nat} (h : i < n) : zb_up5 b n q0 q1 q2 q3 q4 i = b i := by
  unfold zb_up5
  rw [if_neg (by omega), if_neg (by omega), if_neg (by omega), if_neg (by omega), if_neg (by omega)]
theorem zb_addWork {p q0 q1 q2 q3 q4 : Nat} (H : zb_W cI cN cW (68 + 5 * p) ws b f g h) : zb_W cI cN cW (68 + 5 * (p + 1)) ((ws ++ zb_5 cI q0 q1 q2 q3 q4).set 2 (b 2, .inl (cW, 4, .inr (.inr (.inr (.inr (va_up g p (some q0)))))))) (zb_up5 b (68 + 5 * p) q0 q1 q2 q3 q4) f (va_up g p (some q0)) h := by
  obtain ⟨hl, hw⟩ := H
  refine ⟨by simp [hl]; omega, fun i hi => ?_⟩
  by_cases h1 : i = 2
  · subst h1
    rw [List.getElem?_set_self (by rw [List.length_append]; omega), zb_up5_lt (by omega)]
    rfl
  · rw [List.getElem?_set_ne (Ne.symm h1)]
    by_cases h2 : i < 68 + 5 * p
    · rw [List.getElem?_append_left (by omega), hw i h2, zb_up5_lt h2]
      unfold wB
      rw [zb_up5_lt (by omega), zb_up5_lt (by omega), zb_up5_lt (by omega)]
      by_cases h3 : i < 68
      · rw [if_pos h3, if_neg h1, if_pos h3, if_neg h1]
      · rw [if_neg h3, if_neg h3]
        rw [if_neg h1, if_neg h1]
        by_cases h4 : (i - 68) % 5 = 0
        · rw [zb_up5_lt (show i + 1 < _ by omega), zb_up5_lt (show i + 3 < _ by omega)]
        · by_cases h5 : (i - 68) % 5 = 1
          · rw [if_neg h4, if_pos h5, if_neg h4, if_pos h5, zb_up5_lt (show i + 1 < _ by omega)]
          · by_cases h6 : (i - 68) % 5 = 3
            · rw [zb_up5_lt (show i + 1 < _ by omega)]
              rw [if_neg h4, if_neg h4]
            · rw [if_neg h4, if_neg h5, if_neg h6, if_neg h4, if_neg h5, if_neg h6]
    · rw [List.getElem?_append_right (by omega), hl]
      have e0 : zb_up5 b (68 + 5 * p) q0 q1 q2 q3 q4 (68 + 5 * p) = q0 := by unfold zb_up5; rw [if_pos rfl]
      have e1 : zb_up5 b (68 + 5 * p) q0 q1 q2 q3 q4 (68 + 5 * p + 1) = q1 := by unfold zb_up5; rw [if_neg (by omega), if_pos rfl]
      have e2 : zb_up5 b (68 + 5 * p) q0 q1 q2 q3 q4 (68 + 5 * p + 2) = q2 := by unfold zb_up5; rw [if_neg (by omega), if_neg (by omega), if_pos rfl]
      have e3 : zb_up5 b (68 + 5 * p) q0 q1 q2 q3 q4 (68 + 5 * p + 3) = q3 := by unfold zb_up5; rw [if_neg (by omega), if_neg (by omega), if_neg (by omega), if_pos rfl]
      have e4 : zb_up5 b (68 + 5 * p) q0 q1 q2 q3 q4 (68 + 5 * p + 4) = q4 := by unfold zb_up5; rw [if_neg (by omega), if_neg (by omega), if_neg (by omega), if_neg (by omega), if_pos rfl]
      unfold wB
      rw [if_neg (by omega), if_neg (by omega), if_neg (by omega), if_neg (by omega), if_neg (by omega)]
      rcases (show i = 68 + 5 * p ∨ i = 68 + 5 * p + 1 ∨ i = 68 + 5 * p + 2 ∨ i = 68 + 5 * p + 3 ∨ i = 68 + 5 * p + 4 by omega) with rfl | rfl | rfl | rfl | rfl
      · rw [Nat.sub_self, e0, if_pos (by omega), e1, e3]; rfl
      · rw [show 68 + 5 * p + 1 - (68 + 5 * p) = 1 by omega, e1, if_neg (by omega), if_pos (by omega), show 68 + 5 * p + 1 + 1 = 68 + 5 * p + 2 by omega, e2]; rfl
      · rw [show 68 + 5 * p + 2 - (68 + 5 * p) = 2 by omega, e2, if_neg (by omega), if_neg (by omega), if_pos (by omega)]; rfl
      · rw [show 68 + 5 * p + 3 - (68 + 5 * p) = 3 by omega, e3, if_neg (by omega), if_neg (by omega), if_neg (by omega), if_pos (by omega), show 68 + 5 * p + 3 + 1 = 68 + 5 * p + 4 by omega, e4]; rfl
      · rw [show 68 + 5 * p + 4 - (68 + 5 * p) = 4 by omega, e4, if_neg (by omega), if_neg (by omega), if_neg (by omega), if_neg (by omega)]; rfl
theorem zb_setBk {h' : Nat → Int32} (H : zb_W cI cN cW n ws b f g h) (hn : 4 ≤ n) : zb_W cI cN cW n (ws.set 3 (b 3, .inl (cI, 16, .inl h'))) b f g h' := by
  obtain ⟨hl, hw⟩ := H
  refine ⟨by simp [hl], fun i hi => ?_⟩
  by_cases h1 : i = 3
  · subst h1
    rw [List.getElem?_set_self (by omega)]
    rfl
  · rw [List.getElem?_set_ne (Ne.symm h1), hw i hi]
    unfold wB
    rw [if_neg h1, if_neg h1]
/-- where the cells of wC stand in that order -/
def zb_pi (i : Nat) : Nat := if i < 68 then i else if i < 72 then 68 + 5 * (i - 68) else if i < 76 then 68 + 5 * (i - 72) + 1 else if i < 80 then 68 + 5 * (i - 76) + 3 else if i < 84 then 68 + 5 * (i - 80) + 2 else 68 + 5 * (i - 84) + 4
theorem zb_pi_lt {i : Nat} (hi : i < 88) : zb_pi i < 88 := by
  unfold zb_pi
  split <;> (try split) <;> (try split) <;> (try split) <;> (try split) <;> omega
theorem zb_pi_inj {i j : Nat} (hi : i < 88) (hj : j < 88) (he : zb_pi i = zb_pi j) : i = j := by
  unfold zb_pi at he
  split at he <;> split at he <;> (try split at he) <;> (try split at he) <;> (try split at he) <;> (try split at he) <;> (try split at he) <;> (try split at he) <;> (try split at he) <;> (try split at he) <;> omega
/-- the pure state before node 0 appears -/
def zb_σ (h : Nat → Int32) : zs_T := fun c k => if c = 31 then h k else if c = 2 ∨ c = 4 ∨ c = 17 ∨ c = 18 ∨ c = 19 ∨ c = 20 ∨ c = 22 ∨ c = 23 ∨ c = 25 ∨ c = 26 then -1 else if c = 32 ∨ c = 34 then 1 else 0
theorem zb_arr {C : ClassId} {N : Nat} {u v : Nat → Option Nat} (huv : ∀ t, t < N → u t = v t) : vp_cell C (N, .inr (.inr (.inr (.inr u)))) = vp_cell C (N, .inr (.inr (.inr (.inr v)))) := by
  show arrV C N (fun j => va_rf (u j)) = arrV C N (fun j => va_rf (v j))
  unfold arrV
  congr 1
  apply congrArg
  funext j
  show va_rf (u j.1) = va_rf (v j.1)
  rw [huv j.1 j.2]
theorem zb_end (H : zb_W cI cN cW 88 ws b f g h) (hf : ∀ t, t < 64 → f t = some (b (4 + t))) (hg : ∀ t, t < 4 → g t = some (b (68 + 5 * t))) {D : va_G} {A : Nat → Prop} {Hp : Heap} (hP : va_P D vwCl ws Hp) : va_P D vwCl (zs_wl 88 (fun i => b (zb_pi i)) (wC cI cN cW (fun i => b (zb_pi i)) (zb_σ h))) Hp := by
  intro k q hk
  obtain ⟨hlt, rfl⟩ := zs_wl_of hk
  have hat := hP _ _ (H.2 (zb_pi k) (zb_pi_lt hlt))
  have pi_lo : ∀ i, i < 68 → zb_pi i = i := fun i h => by unfold zb_pi; rw [if_pos h]
  by_cases h4 : k < 4
  · rcases (show k = 0 ∨ k = 1 ∨ k = 2 ∨ k = 3 by omega) with rfl | rfl | rfl | rfl
    · exact hat
    · have hat : Hp[b 1]? = some (vp_cell cN (64, .inr (.inr (.inr (.inr f))))) := hat
      show Hp[b 1]? = some (vp_cell cN _)
      rw [hat]
      exact congrArg some (zb_arr fun t ht => by rw [hf t ht]; show some (b (4 + t)) = some (b (zb_pi (4 + t))); rw [pi_lo _ (by omega)])
    · have hat : Hp[b 2]? = some (vp_cell cW (4, .inr (.inr (.inr (.inr g))))) := hat
      show Hp[b 2]? = some (vp_cell cW _)
      rw [hat]
      exact congrArg some (zb_arr fun t ht => by rw [hg t ht]; show some (b (68 + 5 * t)) = some (b (zb_pi (68 + t))); unfold zb_pi; rw [if_neg (by omega), if_pos (by omega), show 68 + t - 68 = t by omega])
    · exact hat
  · by_cases h68 : k < 68
    · obtain ⟨t, rfl⟩ : ∃ t, k = 4 + t := ⟨k - 4, by omega⟩
      rw [zc_Node (by omega)]
      rw [pi_lo _ h68] at hat ⊢
      unfold wB at hat
      rw [if_neg (by omega), if_neg (by omega), if_neg (by omega), if_neg (by omega), if_pos h68] at hat
      exact hat
    · by_cases h72 : k < 72
      · obtain ⟨t, rfl⟩ : ∃ t, k = 68 + t := ⟨k - 68, by omega⟩
        have e : zb_pi (68 + t) = 68 + 5 * t := by unfold zb_pi; rw [if_neg (by omega), if_pos (by omega), show 68 + t - 68 = t by omega]
        have e1 : zb_pi (72 + t) = 68 + 5 * t + 1 := by unfold zb_pi; rw [if_neg (by omega), if_neg (by omega), if_pos (by omega), show 72 + t - 72 = t by omega]
        have e2 : zb_pi (72 + (4 + t)) = 68 + 5 * t + 3 := by unfold zb_pi; rw [if_neg (by omega), if_neg (by omega), if_neg (by omega), if_pos (by omega), show 72 + (4 + t) - 76 = t by omega]
        rw [zc_Worker (by omega)]
        rw [e] at hat ⊢
        rw [e1, e2]
        unfold wB at hat
        rw [if_neg (by omega), if_neg (by omega), if_neg (by omega), if_neg (by omega), if_neg (by omega), if_pos (by omega)] at hat
        exact hat
      · by_cases h80 : k < 80
        · obtain ⟨t, rfl⟩ : ∃ t, k = 72 + t := ⟨k - 72, by omega⟩
          rw [zc_Num (by omega)]
          by_cases ht : t < 4
          · have e1 : zb_pi (72 + t) = 68 + 5 * t + 1 := by unfold zb_pi; rw [if_neg (by omega), if_neg (by omega), if_pos (by omega), show 72 + t - 72 = t by omega]
            have e2 : zb_pi (80 + t) = 68 + 5 * t + 2 := by unfold zb_pi; rw [if_neg (by omega), if_neg (by omega), if_neg (by omega), if_neg (by omega), if_pos (by omega), show 80 + t - 80 = t by omega]
            rw [e1] at hat ⊢
            rw [e2]
            unfold wB at hat
            rw [if_neg (by omega), if_neg (by omega), if_neg (by omega), if_neg (by omega), if_neg (by omega), if_neg (by omega), if_pos (by omega)] at hat
            exact hat
          · have e1 : zb_pi (72 + t) = 68 + 5 * (t - 4) + 3 := by unfold zb_pi; rw [if_neg (by omega), if_neg (by omega), if_neg (by omega), if_pos (by omega), show 72 + t - 76 = t - 4 by omega]
            have e2 : zb_pi (80 + t) = 68 + 5 * (t - 4) + 4 := by unfold zb_pi; rw [if_neg (by omega), if_neg (by omega), if_neg (by omega), if_neg (by omega), if_neg (by omega), show 80 + t - 84 = t - 4 by omega]
            rw [e1] at hat ⊢
            rw [e2]
            unfold wB at hat
            rw [if_neg (by omega), if_neg (by omega), if_neg (by omega), if_neg (by omega), if_neg (by omega), if_neg (by omega), if_neg (by omega), if_neg (by omega), if_pos (by omega)] at hat
            exact hat
        · obtain ⟨t, rfl⟩ : ∃ t, k = 80 + t := ⟨k - 80, by omega⟩
          rw [zc_Items (by omega)]
          have es : zb_σ h (40 + t) = fun _ => 0 := by
            funext j
            unfold zb_σ
            rw [if_neg (by omega), if_neg (by omega), if_neg (by omega)]
          rw [es]
          by_cases ht : t < 4
          · have e2 : zb_pi (80 + t) = 68 + 5 * t + 2 := by unfold zb_pi; rw [if_neg (by omega), if_neg (by omega), if_neg (by omega), if_neg (by omega), if_pos (by omega), show 80 + t - 80 = t by omega]
            rw [e2] at hat ⊢
            unfold wB at hat
            rw [if_neg (by omega), if_neg (by omega), if_neg (by omega), if_neg (by omega), if_neg (by omega), if_neg (by omega), if_neg (by omega), if_pos (by omega)] at hat
            unfold zc_len
            rw [if_pos ht]
            exact hat
          · have e2 : zb_pi (80 + t) = 68 + 5 * (t - 4) + 4 := by unfold zb_pi; rw [if_neg (by omega), if_neg (by omega), if_neg (by omega), if_neg (by omega), if_neg (by omega), show 80 + t - 84 = t - 4 by omega]
            rw [e2] at hat ⊢
            unfold wB at hat
            rw [if_neg (by omega), if_neg (by omega), if_neg (by omega), if_neg (by omega), if_neg (by omega), if_neg (by omega), if_neg (by omega), if_neg (by omega), if_neg (by omega)] at hat
            unfold zc_len
            rw [if_neg ht]
            exact hat
theorem zb_endD (H : zb_W cI cN cW 88 ws b f g h) {A : Nat → Prop} {cf : Nat → va_E} (hD : va_D A ws) : va_D A (zs_wl 88 (fun i => b (zb_pi i)) cf) ∧ zs_J 88 (fun i => b (zb_pi i)) := by
  have hJ : zs_J 88 (fun i => b (zb_pi i)) := fun i j hi hj he => zb_pi_inj hi hj (hD.1 _ _ _ _ (H.2 _ (zb_pi_lt hi)) (H.2 _ (zb_pi_lt hj)) he)
  refine ⟨⟨fun i j p q hi hj hpq => ?_, fun k q hk => ?_⟩, hJ⟩
  · obtain ⟨h1, rfl⟩ := zs_wl_of hi
    obtain ⟨h2, rfl⟩ := zs_wl_of hj
    exact hJ i j h1 h2 hpq
  · obtain ⟨h1, rfl⟩ := zs_wl_of hk
    have h3 := hD.2 (zb_pi k) _ (H.2 _ (zb_pi_lt h1))
    exact h3
end ZB
