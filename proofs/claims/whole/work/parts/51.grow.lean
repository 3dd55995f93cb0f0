/-! THE JUDGEMENT zn_Z: the kit's W over a list of cells that may grow; a row an instruction. -/
def zn_Z (p : Program) (l : Launch) (e : Env) (R : Room) (s : State) (m : MethodId) (args : Array Value) (below : List Frame) (meth : Method) (c : Code) (D : va_G) (cl : List vw_C) (A : Nat → Prop) (nL : Nat) (Q : State → Prop) (ws : va_W) (k n : Nat) (pc : Nat) (lv : List (Nat × Value)) (st : List Value) : Prop :=
  ∀ (H : Heap) (locs : List Loc) (ls : Array Slot), va_P D cl ws H → va_D A ws → va_S A s.heap H locs → lv_has ls nL lv → W p l e R s m args below meth c H locs k n Q (F0 m pc ls st)
def zn_C (p : Program) (s : State) (m : MethodId) (args : Array Value) (meth : Method) (c : Code) (cc : ByteArray) (nL : Nat) (Ts : List Cond) (own : String) (D : va_G) (cl : List vw_C) (tys : List (ClassId × FieldType)) (A : Nat → Prop) : Prop := CallFix p m c cc nL s args Ts own ∧ va_K D cl tys s ∧ (∀ q, s.heap.size ≤ q → A q) ∧ meth.locks = false
theorem zn_Pm {D : va_G} {cl : List vw_C} {ws : va_W} {H : Heap} : va_P D cl ws H ↔ ∀ q ∈ ws, va_at D cl q H :=
  ⟨fun h q hq => by obtain ⟨k, hk⟩ := List.getElem?_of_mem hq; exact h k q hk, fun h _ q hk => h q (List.mem_of_getElem? hk)⟩
theorem zn_Dm {A : Nat → Prop} {ws : va_W} : va_D A ws ↔ ws.Pairwise (fun a b => a.1 ≠ b.1) ∧ ∀ q ∈ ws, A q.1 := by
  constructor
  · intro h
    refine ⟨List.pairwise_iff_getElem.mpr fun i j hi hj hij he => ?_, fun q hq => ?_⟩
    · exact Nat.ne_of_lt hij (h.1 i j _ _ (List.getElem?_eq_getElem hi) (List.getElem?_eq_getElem hj) he)
    · obtain ⟨k, hk⟩ := List.getElem?_of_mem hq
      exact h.2 k q hk
  · intro h
    refine ⟨fun i j p q hi hj he => ?_, fun k q hk => h.2 q (List.mem_of_getElem? hk)⟩
    obtain ⟨hi1, rfl⟩ := List.getElem?_eq_some_iff.mp hi
    obtain ⟨hj1, rfl⟩ := List.getElem?_eq_some_iff.mp hj
    have h1 := List.pairwise_iff_getElem.mp h.1
    rcases Nat.lt_trichotomy i j with g | g | g
    · exact absurd he (h1 i j hi1 hj1 g)
    · exact g
    · exact absurd he.symm (h1 j i hj1 hi1 g)
theorem zn_Am {ws : va_W} {sz q : Nat} : va_A ws sz q ↔ (∃ e, (q, e) ∈ ws) ∨ sz ≤ q := by
  constructor
  · intro h
    rcases h with ⟨k, e, hk⟩ | h
    · exact Or.inl ⟨e, List.mem_of_getElem? hk⟩
    · exact Or.inr h
  · intro h
    rcases h with ⟨e, he⟩ | h
    · obtain ⟨k, hk⟩ := List.getElem?_of_mem he
      exact Or.inl ⟨k, e, hk⟩
    · exact Or.inr h
/-- behind a call: the callee's cells stand in the middle -/
theorem zn_join {A : Nat → Prop} {D : va_G} {cl : List vw_C} {wl w0 wr w1 : va_W} {H H1 : Heap} (hP : va_P D cl (wl ++ (w0 ++ wr)) H) (hD : va_D A (wl ++ (w0 ++ wr))) (hF : ∀ q, va_A w0 H.size q → A q) (hk : ∀ q : Nat, q < H.size → ¬ va_A w0 H.size q → H1[q]? = H[q]?) (hP1 : va_P D cl w1 H1) (hD1 : va_D (va_A w0 H.size) w1) : va_P D cl (wl ++ (w1 ++ wr)) H1 ∧ va_D A (wl ++ (w1 ++ wr)) := by
  have hPm := zn_Pm.mp hP
  obtain ⟨hd, ha⟩ := zn_Dm.mp hD
  obtain ⟨hd1, ha1⟩ := zn_Dm.mp hD1
  rw [List.pairwise_append, List.pairwise_append] at hd
  obtain ⟨dl, ⟨d0, dr, d0r⟩, dlr⟩ := hd
  have apart : ∀ q, (q ∈ wl ∨ q ∈ wr) → q.1 < H.size ∧ ¬ va_A w0 H.size q.1 := by
    intro q hq
    have hm : q ∈ wl ++ (w0 ++ wr) := by
      rcases hq with h | h
      · exact List.mem_append_left _ h
      · exact List.mem_append_right _ (List.mem_append_right _ h)
    have hlt := (hPm q hm).lt
    refine ⟨hlt, fun h => ?_⟩
    rcases zn_Am.mp h with ⟨e, he⟩ | h
    · rcases hq with g | g
      · exact dlr q g (q.1, e) (List.mem_append_left _ he) rfl
      · exact d0r (q.1, e) he q g rfl
    · omega
  have keep : ∀ q, (q ∈ wl ∨ q ∈ wr) → va_at D cl q H1 := by
    intro q hq
    have hm : q ∈ wl ++ (w0 ++ wr) := by
      rcases hq with h | h
      · exact List.mem_append_left _ h
      · exact List.mem_append_right _ (List.mem_append_right _ h)
    exact (hPm q hm).kept (hk q.1 (apart q hq).1 (apart q hq).2)
  constructor
  · refine zn_Pm.mpr fun q hq => ?_
    rcases List.mem_append.mp hq with h | h
    · exact keep q (Or.inl h)
    · rcases List.mem_append.mp h with h | h
      · exact zn_Pm.mp hP1 q h
      · exact keep q (Or.inr h)
  · refine zn_Dm.mpr ⟨?_, fun q hq => ?_⟩
    · rw [List.pairwise_append, List.pairwise_append]
      refine ⟨dl, ⟨hd1, dr, fun a h1 b h2 he => ?_⟩, fun a h1 b h2 he => ?_⟩
      · exact (apart b (Or.inr h2)).2 (by rw [← he]; exact ha1 a h1)
      · rcases List.mem_append.mp h2 with h | h
        · exact (apart a (Or.inl h1)).2 (by rw [he]; exact ha1 b h)
        · exact dlr a h1 b (List.mem_append_right _ h) he
    · rcases List.mem_append.mp hq with h | h
      · exact ha q (List.mem_append_left _ h)
      · rcases List.mem_append.mp h with h | h
        · exact hF _ (ha1 q h)
        · exact ha q (List.mem_append_right _ (List.mem_append_right _ h))
theorem zn_uniq {U : State} {a b : ClassId} {ty : FieldType} (h1 : va_RA U a ty) (h2 : va_RA U b ty) : a = b := by
  cases ty with
  | object C =>
    obtain ⟨_, _, _, _, _, h1⟩ := h1
    obtain ⟨_, _, _, _, _, h2⟩ := h2
    exact Option.some.inj (h1.symm.trans h2)
  | _ =>
    have h1 : U.vm.findClass _ = some a := h1
    have h2 : U.vm.findClass _ = some b := h2
    exact Option.some.inj (h1.symm.trans h2)
/-- a maker's contract: out of the cells w0 come the cells w1 -/
def zn_Q (D : va_G) (cl : List vw_C) (w0 : va_W) (sz : Nat) (P : Option Value → va_W → Prop) : Array Value → State → Outcome → State → Prop := fun _ st oc t => (∃ (v : Option Value) (w1 : va_W), oc = .returned v ∧ P v w1 ∧ va_P D cl w1 t.heap ∧ va_D (va_A w0 sz) w1) ∧ va_F (va_A w0 sz) st t
def zn_M (l : Launch) (D : va_G) (cl : List vw_C) (tys : List (ClassId × FieldType)) (X : State → Prop) (y : MethodName) (ws : List Cond) (rm : Room) (av : List Value) (w0 : va_W) (P : Option Value → va_W → Prop) (mc ms : Nat) : Prop :=
  ∀ sz : Nat, Met l y ws rm (va_Pc av (fun U => U.heap.size = sz ∧ va_P D cl w0 U.heap ∧ va_K D cl tys U ∧ va_D (fun _ => True) w0 ∧ X U)) (zn_Q D cl w0 sz P) mc ms (va_A w0 sz)
def zn_rm (d c n : Nat) : Room := { frames := d, cells := c, slots := n, locals := 30 * d }
section ZNR
variable {p : Program} {l : Launch} {e : Env} {R : Room} {s : State} {m : MethodId} {args : Array Value} {below : List Frame} {meth : Method} {c : Code} {D : va_G} {cl : List vw_C} {tys : List (ClassId × FieldType)} {A : Nat → Prop} {nL : Nat} {Q : State → Prop} {ws ws' : va_W} {k n : Nat} {cc : ByteArray} {Ts : List Cond} {own : String} {pc : Nat} {lv lv' : List (Nat × Value)} {st rest : List Value}
theorem zn_iconst (C : zn_C p s m args meth c cc nL Ts own D cl tys A) {i : Int} {v : Int32} (hdg : decode cc pc = .ok (.iconst i, 1)) (hv : Int32.ofInt i = v)
    (kk : zn_Z p l e R s m args below meth c D cl A nL Q ws k n (pc + 1) lv (.int v :: st)) : zn_Z p l e R s m args below meth c D cl A nL Q ws k n pc lv (st) :=
  fun H locs ls hP hD hS hl => lv_iconst C.1.1 C.1.2.1 hdg hv (kk H locs ls hP hD hS hl)
theorem zn_bipush (C : zn_C p s m args meth c cc nL Ts own D cl tys A) {i : Int} {v : Int32} (hdg : decode cc pc = .ok (.bipush i, 2)) (hv : (Int8.ofInt i).toInt32 = v)
    (kk : zn_Z p l e R s m args below meth c D cl A nL Q ws k n (pc + 2) lv (.int v :: st)) : zn_Z p l e R s m args below meth c D cl A nL Q ws k n pc lv (st) :=
  fun H locs ls hP hD hS hl => lv_bipush C.1.1 C.1.2.1 hdg hv (kk H locs ls hP hD hS hl)
theorem zn_sipush (C : zn_C p s m args meth c cc nL Ts own D cl tys A) {i : Int} {v : Int32} (hdg : decode cc pc = .ok (.sipush i, 3)) (hv : (Int16.ofInt i).toInt32 = v)
    (kk : zn_Z p l e R s m args below meth c D cl A nL Q ws k n (pc + 3) lv (.int v :: st)) : zn_Z p l e R s m args below meth c D cl A nL Q ws k n pc lv (st) :=
  fun H locs ls hP hD hS hl => lv_sipush C.1.1 C.1.2.1 hdg hv (kk H locs ls hP hD hS hl)
theorem zn_iload_n (C : zn_C p s m args meth c cc nL Ts own D cl tys A) {kf : Fin 4} {i j : Nat} {x : Int32} (hdg : decode cc pc = .ok (.iload_n kf, 1)) (hi : (kf : Nat) = i) (hk : lv[j]? = some (i, .int x))
    (kk : zn_Z p l e R s m args below meth c D cl A nL Q ws k n (pc + 1) lv (.int x :: st)) : zn_Z p l e R s m args below meth c D cl A nL Q ws k n pc lv (st) :=
  fun H locs ls hP hD hS hl => lv_iload_n C.1.1 C.1.2.1 hdg hi (lv_at hl j hk) (kk H locs ls hP hD hS hl)
theorem zn_iload (C : zn_C p s m args meth c cc nL Ts own D cl tys A) {i j : Nat} {x : Int32} (hdg : decode cc pc = .ok (.iload i, 2)) (hk : lv[j]? = some (i, .int x))
    (kk : zn_Z p l e R s m args below meth c D cl A nL Q ws k n (pc + 2) lv (.int x :: st)) : zn_Z p l e R s m args below meth c D cl A nL Q ws k n pc lv (st) :=
  fun H locs ls hP hD hS hl => lv_iload C.1.1 C.1.2.1 hdg (lv_at hl j hk) (kk H locs ls hP hD hS hl)
theorem zn_istore_n (C : zn_C p s m args meth c cc nL Ts own D cl tys A) {kf : Fin 4} {i : Nat} {x : Int32} (hdg : decode cc pc = .ok (.istore_n kf, 1)) (hi : (kf : Nat) = i) (hn : i < nL) (hv : (i, Value.int x) :: lv.filter (fun q => !(q.1 == i) && !(q.1 + 1 == i && q.2.category == 2)) = lv')
    (kk : zn_Z p l e R s m args below meth c D cl A nL Q ws k n (pc + 1) lv' (st)) : zn_Z p l e R s m args below meth c D cl A nL Q ws k n pc lv (.int x :: st) :=
  fun H locs ls hP hD hS hl => lv_istore_n C.1.1 C.1.2.1 hdg hi hl hn hv (fun ls hl => kk H locs ls hP hD hS hl)
theorem zn_istore (C : zn_C p s m args meth c cc nL Ts own D cl tys A) {i : Nat} {x : Int32} (hdg : decode cc pc = .ok (.istore i, 2)) (hn : i < nL) (hv : (i, Value.int x) :: lv.filter (fun q => !(q.1 == i) && !(q.1 + 1 == i && q.2.category == 2)) = lv')
    (kk : zn_Z p l e R s m args below meth c D cl A nL Q ws k n (pc + 2) lv' (st)) : zn_Z p l e R s m args below meth c D cl A nL Q ws k n pc lv (.int x :: st) :=
  fun H locs ls hP hD hS hl => lv_istore C.1.1 C.1.2.1 hdg hl hn hv (fun ls hl => kk H locs ls hP hD hS hl)
theorem zn_aload_n (C : zn_C p s m args meth c cc nL Ts own D cl tys A) {kf : Fin 4} {i j : Nat} {x : Nat} (hdg : decode cc pc = .ok (.aload_n kf, 1)) (hi : (kf : Nat) = i) (hk : lv[j]? = some (i, .ref x))
    (kk : zn_Z p l e R s m args below meth c D cl A nL Q ws k n (pc + 1) lv (.ref x :: st)) : zn_Z p l e R s m args below meth c D cl A nL Q ws k n pc lv (st) :=
  fun H locs ls hP hD hS hl => lv_aload_n C.1.1 C.1.2.1 hdg hi (lv_at hl j hk) (kk H locs ls hP hD hS hl)
theorem zn_aload (C : zn_C p s m args meth c cc nL Ts own D cl tys A) {i j : Nat} {x : Nat} (hdg : decode cc pc = .ok (.aload i, 2)) (hk : lv[j]? = some (i, .ref x))
    (kk : zn_Z p l e R s m args below meth c D cl A nL Q ws k n (pc + 2) lv (.ref x :: st)) : zn_Z p l e R s m args below meth c D cl A nL Q ws k n pc lv (st) :=
  fun H locs ls hP hD hS hl => lv_aload C.1.1 C.1.2.1 hdg (lv_at hl j hk) (kk H locs ls hP hD hS hl)
theorem zn_astore_n (C : zn_C p s m args meth c cc nL Ts own D cl tys A) {kf : Fin 4} {i : Nat} {x : Nat} (hdg : decode cc pc = .ok (.astore_n kf, 1)) (hi : (kf : Nat) = i) (hn : i < nL) (hv : (i, Value.ref x) :: lv.filter (fun q => !(q.1 == i) && !(q.1 + 1 == i && q.2.category == 2)) = lv')
    (kk : zn_Z p l e R s m args below meth c D cl A nL Q ws k n (pc + 1) lv' (st)) : zn_Z p l e R s m args below meth c D cl A nL Q ws k n pc lv (.ref x :: st) :=
  fun H locs ls hP hD hS hl => lv_astore_n C.1.1 C.1.2.1 hdg hi hl hn hv (fun ls hl => kk H locs ls hP hD hS hl)
theorem zn_astore (C : zn_C p s m args meth c cc nL Ts own D cl tys A) {i : Nat} {x : Nat} (hdg : decode cc pc = .ok (.astore i, 2)) (hn : i < nL) (hv : (i, Value.ref x) :: lv.filter (fun q => !(q.1 == i) && !(q.1 + 1 == i && q.2.category == 2)) = lv')
    (kk : zn_Z p l e R s m args below meth c D cl A nL Q ws k n (pc + 2) lv' (st)) : zn_Z p l e R s m args below meth c D cl A nL Q ws k n pc lv (.ref x :: st) :=
  fun H locs ls hP hD hS hl => lv_astore C.1.1 C.1.2.1 hdg hl hn hv (fun ls hl => kk H locs ls hP hD hS hl)
theorem zn_iinc (C : zn_C p s m args meth c cc nL Ts own D cl tys A) {i j : Nat} {z : Int} {x v : Int32} (hdg : decode cc pc = .ok (.iinc i z, 3)) (hk : lv[j]? = some (i, .int x)) (hv : x + Int32.ofInt z = v) (hn : i < nL) (hl2 : (i, Value.int v) :: lv.filter (fun q => !(q.1 == i) && !(q.1 + 1 == i && q.2.category == 2)) = lv')
    (kk : zn_Z p l e R s m args below meth c D cl A nL Q ws k n (pc + 3) lv' (st)) : zn_Z p l e R s m args below meth c D cl A nL Q ws k n pc lv (st) :=
  fun H locs ls hP hD hS hl => lv_iinc C.1.1 C.1.2.1 hdg hl hk hv hn hl2 (fun ls hl => kk H locs ls hP hD hS hl)
theorem zn_iadd (C : zn_C p s m args meth c cc nL Ts own D cl tys A) {x y : Int32} (hdg : decode cc pc = .ok (.iadd, 1))
    (kk : zn_Z p l e R s m args below meth c D cl A nL Q ws k n (pc + 1) lv (.int (x + y) :: st)) : zn_Z p l e R s m args below meth c D cl A nL Q ws k n pc lv (.int y :: .int x :: st) :=
  fun H locs ls hP hD hS hl => lv_iadd C.1.1 C.1.2.1 hdg (kk H locs ls hP hD hS hl)
theorem zn_isub (C : zn_C p s m args meth c cc nL Ts own D cl tys A) {x y : Int32} (hdg : decode cc pc = .ok (.isub, 1))
    (kk : zn_Z p l e R s m args below meth c D cl A nL Q ws k n (pc + 1) lv (.int (x - y) :: st)) : zn_Z p l e R s m args below meth c D cl A nL Q ws k n pc lv (.int y :: .int x :: st) :=
  fun H locs ls hP hD hS hl => lv_isub C.1.1 C.1.2.1 hdg (kk H locs ls hP hD hS hl)
theorem zn_iand (C : zn_C p s m args meth c cc nL Ts own D cl tys A) {x y : Int32} (hdg : decode cc pc = .ok (.iand, 1))
    (kk : zn_Z p l e R s m args below meth c D cl A nL Q ws k n (pc + 1) lv (.int (x &&& y) :: st)) : zn_Z p l e R s m args below meth c D cl A nL Q ws k n pc lv (.int y :: .int x :: st) :=
  fun H locs ls hP hD hS hl => lv_iand C.1.1 C.1.2.1 hdg (kk H locs ls hP hD hS hl)
theorem zn_i2l (C : zn_C p s m args meth c cc nL Ts own D cl tys A) {x : Int32} (hdg : decode cc pc = .ok (.i2l, 1))
    (kk : zn_Z p l e R s m args below meth c D cl A nL Q ws k n (pc + 1) lv (.long x.toInt64 :: st)) : zn_Z p l e R s m args below meth c D cl A nL Q ws k n pc lv (.int x :: st) :=
  fun H locs ls hP hD hS hl => lv_i2l C.1.1 C.1.2.1 hdg rfl (kk H locs ls hP hD hS hl)
theorem zn_lcmp (C : zn_C p s m args meth c cc nL Ts own D cl tys A) {x y : Int64} (hdg : decode cc pc = .ok (.lcmp, 1))
    (kk : zn_Z p l e R s m args below meth c D cl A nL Q ws k n (pc + 1) lv (.int (lg_cmp x y) :: st)) : zn_Z p l e R s m args below meth c D cl A nL Q ws k n pc lv (.long y :: .long x :: st) :=
  fun H locs ls hP hD hS hl => W.lcmp C.1.1 C.1.2.1 hdg (kk H locs ls hP hD hS hl)
theorem zn_dup (C : zn_C p s m args meth c cc nL Ts own D cl tys A) {va : Value} (hdg : decode cc pc = .ok (.dup, 1)) (hva : va.category = 1)
    (kk : zn_Z p l e R s m args below meth c D cl A nL Q ws k n (pc + 1) lv (va :: va :: st)) : zn_Z p l e R s m args below meth c D cl A nL Q ws k n pc lv (va :: st) :=
  fun H locs ls hP hD hS hl => lv_dup C.1.1 C.1.2.1 hdg hva (kk H locs ls hP hD hS hl)
theorem zn_goto (C : zn_C p s m args meth c cc nL Ts own D cl tys A) {off : Int} {tgt : Nat} (hdg : decode cc pc = .ok (.goto off, 3)) (ht : (pc : Int) + off = (tgt : Int))
    (kk : zn_Z p l e R s m args below meth c D cl A nL Q ws k n tgt lv (st)) : zn_Z p l e R s m args below meth c D cl A nL Q ws k n pc lv (st) :=
  fun H locs ls hP hD hS hl => lv_goto C.1.1 C.1.2.1 hdg ht (kk H locs ls hP hD hS hl)
theorem zn_icmp_ge (C : zn_C p s m args meth c cc nL Ts own D cl tys A) {x y : Int32} {off : Int} {tgt : Nat} (hdg : decode cc pc = .ok (.if_icmp .ge off, 3)) (ht : (pc : Int) + off = (tgt : Int))
    (kt : y ≤ x → zn_Z p l e R s m args below meth c D cl A nL Q ws k n tgt lv (st)) (kf : ¬ y ≤ x → zn_Z p l e R s m args below meth c D cl A nL Q ws k n (pc + 3) lv (st)) : zn_Z p l e R s m args below meth c D cl A nL Q ws k n pc lv (.int y :: .int x :: st) :=
  fun H locs ls hP hD hS hl => lv_icmp_ge C.1.1 C.1.2.1 hdg ht (fun q => kt (by first | exact q | exact fun z => q z | omega) H locs ls hP hD hS hl) (fun q => kf (by first | exact q | exact Decidable.not_not.mp q | exact fun z => q z) H locs ls hP hD hS hl)
theorem zn_icmp_gt (C : zn_C p s m args meth c cc nL Ts own D cl tys A) {x y : Int32} {off : Int} {tgt : Nat} (hdg : decode cc pc = .ok (.if_icmp .gt off, 3)) (ht : (pc : Int) + off = (tgt : Int))
    (kt : y < x → zn_Z p l e R s m args below meth c D cl A nL Q ws k n tgt lv (st)) (kf : ¬ y < x → zn_Z p l e R s m args below meth c D cl A nL Q ws k n (pc + 3) lv (st)) : zn_Z p l e R s m args below meth c D cl A nL Q ws k n pc lv (.int y :: .int x :: st) :=
  fun H locs ls hP hD hS hl => lv_icmp_gt C.1.1 C.1.2.1 hdg ht (fun q => kt (by first | exact q | exact fun z => q z | omega) H locs ls hP hD hS hl) (fun q => kf (by first | exact q | exact Decidable.not_not.mp q | exact fun z => q z) H locs ls hP hD hS hl)
theorem zn_icmp_eq (C : zn_C p s m args meth c cc nL Ts own D cl tys A) {x y : Int32} {off : Int} {tgt : Nat} (hdg : decode cc pc = .ok (.if_icmp .eq off, 3)) (ht : (pc : Int) + off = (tgt : Int))
    (kt : x = y → zn_Z p l e R s m args below meth c D cl A nL Q ws k n tgt lv (st)) (kf : ¬ x = y → zn_Z p l e R s m args below meth c D cl A nL Q ws k n (pc + 3) lv (st)) : zn_Z p l e R s m args below meth c D cl A nL Q ws k n pc lv (.int y :: .int x :: st) :=
  fun H locs ls hP hD hS hl => lv_icmp_eq C.1.1 C.1.2.1 hdg ht (fun q => kt (by first | exact q | exact fun z => q z | omega) H locs ls hP hD hS hl) (fun q => kf (by first | exact q | exact Decidable.not_not.mp q | exact fun z => q z) H locs ls hP hD hS hl)
theorem zn_if_eq (C : zn_C p s m args meth c cc nL Ts own D cl tys A) {x : Int32} {off : Int} {tgt : Nat} (hdg : decode cc pc = .ok (.ifCond .eq off, 3)) (ht : (pc : Int) + off = (tgt : Int))
    (kt : x = 0 → zn_Z p l e R s m args below meth c D cl A nL Q ws k n tgt lv (st)) (kf : ¬ x = 0 → zn_Z p l e R s m args below meth c D cl A nL Q ws k n (pc + 3) lv (st)) : zn_Z p l e R s m args below meth c D cl A nL Q ws k n pc lv (.int x :: st) :=
  fun H locs ls hP hD hS hl => lv_if_eq C.1.1 C.1.2.1 hdg ht (fun q => kt (by first | exact q | exact fun z => q z | omega) H locs ls hP hD hS hl) (fun q => kf (by first | exact q | exact Decidable.not_not.mp q | exact fun z => q z) H locs ls hP hD hS hl)
theorem zn_if_ne (C : zn_C p s m args meth c cc nL Ts own D cl tys A) {x : Int32} {off : Int} {tgt : Nat} (hdg : decode cc pc = .ok (.ifCond .ne off, 3)) (ht : (pc : Int) + off = (tgt : Int))
    (kt : ¬ x = 0 → zn_Z p l e R s m args below meth c D cl A nL Q ws k n tgt lv (st)) (kf : x = 0 → zn_Z p l e R s m args below meth c D cl A nL Q ws k n (pc + 3) lv (st)) : zn_Z p l e R s m args below meth c D cl A nL Q ws k n pc lv (.int x :: st) :=
  fun H locs ls hP hD hS hl => lv_if_ne C.1.1 C.1.2.1 hdg ht (fun q => kt (by first | exact q | exact fun z => q z | omega) H locs ls hP hD hS hl) (fun q => kf (by first | exact q | exact Decidable.not_not.mp q | exact fun z => q z) H locs ls hP hD hS hl)
theorem zn_tabIn (C : zn_C p s m args meth c cc nL Ts own D cl tys A) {dflt lo hi : Int} {offs : Array Int} {len : Nat} {x kx : Int32} {off : Int} {tgt : Nat} (hdg : decode cc pc = .ok (.tableswitch dflt lo hi offs, len)) (hx : x = kx) (h1 : ¬ kx.toInt < lo) (h2 : ¬ hi < kx.toInt) (ho : offs[(kx.toInt - lo).toNat]? = some off) (ht : (pc : Int) + off = (tgt : Int))
    (kk : zn_Z p l e R s m args below meth c D cl A nL Q ws k n tgt lv (st)) : zn_Z p l e R s m args below meth c D cl A nL Q ws k n pc lv (.int x :: st) :=
  fun H locs ls hP hD hS hl => by subst hx; exact lv_tableIn C.1.1 C.1.2.1 hdg h1 h2 ho ht (kk H locs ls hP hD hS hl)
theorem zn_get (C : zn_C p s m args meth c cc nL Ts own D cl tys A) {Cn : String} {T : u_T} {NF ci index : Nat} (hin : ∀ w ∈ u_ws Cn T NF, w ∈ Ts) (q0 : Nat) {a : Nat} {fs : List Value} (he : ws[q0]? = some (a, .inr (ci, fs))) (hc : cl[ci]? = some (Cn, T, NF)) (j : Nat) (hk : j < NF) (hlink : Cond.fieldLink own index (T j).1 (T j).2.1 (T j).2.2.1 ∈ Ts) {v : Value} (hv : fs[j]? = some v) (hdg : decode cc pc = .ok (.getfield index, 3))
    (kk : zn_Z p l e R s m args below meth c D cl A nL Q ws k n (pc + 3) lv (v :: st)) : zn_Z p l e R s m args below meth c D cl A nL Q ws k n pc lv (.ref a :: st) :=
  fun H locs ls hP hD hS hl => va_get C.1.1 C.1.2.1 C.1.2.2.2.2 hin C.1.2.2.2.1 C.2.1 hP q0 he hc j hk (C.1.2.2.2.2 _ hlink) (fun _ h => h) hv hdg (kk H locs ls hP hD hS hl)
theorem zn_put (C : zn_C p s m args meth c cc nL Ts own D cl tys A) {Cn : String} {T : u_T} {NF ci index : Nat} (hin : ∀ w ∈ u_ws Cn T NF, w ∈ Ts) (ty0 : Nat → FieldType) (hty : ∀ k, k < NF → parseFieldDescriptor (T k).2.2.1 = some (ty0 k)) (hnm : ∀ a, a < NF → ∀ b, b < NF → a ≠ b → (T a).2.1 ≠ (T b).2.1) (q0 : Nat) {a : Nat} {fs : List Value} (he : ws[q0]? = some (a, .inr (ci, fs))) (hc : cl[ci]? = some (Cn, T, NF)) (j : Nat) (hk : j < NF) (hlink : Cond.fieldLink own index (T j).1 (T j).2.1 (T j).2.2.1 ∈ Ts) (hfin : (T j).2.2.2 = false) {ty : FieldType} {v : Value} (hd : parseFieldDescriptor (T j).2.2.1 = some ty) (hn : narrow ty v = v) (hfit : fits ty v = true) (hlf : j < fs.length) (hw : ws.set q0 (a, .inr (ci, fs.set j v)) = ws') (hdg : decode cc pc = .ok (.putfield index, 3))
    (kk : zn_Z p l e R s m args below meth c D cl A nL Q ws' k n (pc + 3) lv (st)) : zn_Z p l e R s m args below meth c D cl A nL Q ws k n pc lv (v :: .ref a :: st) :=
  fun H locs ls hP hD hS hl => va_put C.1.1 C.1.2.1 C.1.2.2.2.2 hin ty0 hty hnm C.1.2.2.2.1 C.2.1 hP hD hS q0 he hc j hk (C.1.2.2.2.2 _ hlink) (fun _ h => h) hfin hd hn hfit hlf hdg (fun H1 locs1 hP1 hD1 hS1 => kk H1 locs1 ls (by rw [← hw]; exact hP1) (by rw [← hw]; exact hD1) hS1 hl)
theorem zn_putF (C : zn_C p s m args meth c cc nL Ts own D cl tys A) {Cn : String} {T : u_T} {NF ci index : Nat} (hin : ∀ w ∈ u_ws Cn T NF, w ∈ Ts) (ty0 : Nat → FieldType) (hty : ∀ k, k < NF → parseFieldDescriptor (T k).2.2.1 = some (ty0 k)) (hnm : ∀ a, a < NF → ∀ b, b < NF → a ≠ b → (T a).2.1 ≠ (T b).2.1) (q0 : Nat) {a : Nat} {fs : List Value} (he : ws[q0]? = some (a, .inr (ci, fs))) (hc : cl[ci]? = some (Cn, T, NF)) (j : Nat) (hk : j < NF) (hlink : Cond.fieldLink own index (T j).1 (T j).2.1 (T j).2.2.1 ∈ Ts) (hfin : (T j).2.2.2 = true) (hin2 : meth.name = "<init>") (hdecl : (T j).1 = own) {ty : FieldType} {v : Value} (hd : parseFieldDescriptor (T j).2.2.1 = some ty) (hn : narrow ty v = v) (hfit : fits ty v = true) (hlf : j < fs.length) (hw : ws.set q0 (a, .inr (ci, fs.set j v)) = ws') (hdg : decode cc pc = .ok (.putfield index, 3))
    (kk : zn_Z p l e R s m args below meth c D cl A nL Q ws' k n (pc + 3) lv (st)) : zn_Z p l e R s m args below meth c D cl A nL Q ws k n pc lv (v :: .ref a :: st) :=
  fun H locs ls hP hD hS hl => va_putF C.1.1 C.1.2.1 C.1.2.2.2.2 hin ty0 hty hnm C.1.2.2.2.1 C.2.1 hP hD hS q0 he hc j hk (C.1.2.2.2.2 _ hlink) (fun _ h => h) hfin hin2 hdecl hd hn hfit hlf hdg (fun H1 locs1 hP1 hD1 hS1 => kk H1 locs1 ls (by rw [← hw]; exact hP1) (by rw [← hw]; exact hD1) hS1 hl)
theorem zn_lald (C : zn_C p s m args meth c cc nL Ts own D cl tys A) (q0 t0 : Nat) {a : Nat} {cA : ClassId} {N : Nat} {f : Nat → Int64} (he : ws[q0]? = some (a, .inl (cA, N, .inr (.inl f)))) (ht : tys[t0]? = some (cA, .long)) {i : Int32} (hin : vp_in i N) (hdg : decode cc pc = .ok (.laload, 1))
    (kk : zn_Z p l e R s m args below meth c D cl A nL Q ws k n (pc + 1) lv (.long (f i.toNatClampNeg) :: st)) : zn_Z p l e R s m args below meth c D cl A nL Q ws k n pc lv (.int i :: .ref a :: st) :=
  fun H locs ls hP hD hS hl => va_lald C.1.1 C.1.2.1 C.2.1 hP q0 t0 he ht hin hdg (kk H locs ls hP hD hS hl)
theorem zn_aald (C : zn_C p s m args meth c cc nL Ts own D cl tys A) (q0 t0 : Nat) {a : Nat} {cA : ClassId} {Cn : String} {N : Nat} {f : Nat → Option Nat} (he : ws[q0]? = some (a, .inl (cA, N, .inr (.inr (.inr (.inr f)))))) (ht : tys[t0]? = some (cA, .object Cn)) {i : Int32} (hin : vp_in i N) {a1 : Nat} (hv : f i.toNatClampNeg = some a1) (hdg : decode cc pc = .ok (.aaload, 1))
    (kk : zn_Z p l e R s m args below meth c D cl A nL Q ws k n (pc + 1) lv (.ref a1 :: st)) : zn_Z p l e R s m args below meth c D cl A nL Q ws k n pc lv (.int i :: .ref a :: st) :=
  fun H locs ls hP hD hS hl => va_aldq C.1.1 C.1.2.1 C.2.1 hP q0 t0 he ht hin hdg (by rw [hv]; exact kk H locs ls hP hD hS hl)
theorem zn_iast (C : zn_C p s m args meth c cc nL Ts own D cl tys A) (q0 t0 : Nat) {a : Nat} {cA : ClassId} {N : Nat} {f : Nat → Int32} (he : ws[q0]? = some (a, .inl (cA, N, .inl f))) (ht : tys[t0]? = some (cA, .int)) {i : Int32} {x : Int32} (hin : vp_in i N) (hw : ws.set q0 (a, .inl (cA, N, .inl (upd f i.toNatClampNeg x))) = ws') (hdg : decode cc pc = .ok (.iastore, 1))
    (kk : zn_Z p l e R s m args below meth c D cl A nL Q ws' k n (pc + 1) lv (st)) : zn_Z p l e R s m args below meth c D cl A nL Q ws k n pc lv (.int x :: .int i :: .ref a :: st) :=
  fun H locs ls hP hD hS hl => va_iast C.1.1 C.1.2.1 C.2.1 hP hD hS q0 t0 he ht hin hdg (fun H1 locs1 hP1 hD1 hS1 => kk H1 locs1 ls (by rw [← hw]; exact hP1) (by rw [← hw]; exact hD1) hS1 hl)
theorem zn_last (C : zn_C p s m args meth c cc nL Ts own D cl tys A) (q0 t0 : Nat) {a : Nat} {cA : ClassId} {N : Nat} {f : Nat → Int64} (he : ws[q0]? = some (a, .inl (cA, N, .inr (.inl f)))) (ht : tys[t0]? = some (cA, .long)) {i : Int32} {x : Int64} (hin : vp_in i N) (hw : ws.set q0 (a, .inl (cA, N, .inr (.inl (vp_updL f i.toNatClampNeg x)))) = ws') (hdg : decode cc pc = .ok (.lastore, 1))
    (kk : zn_Z p l e R s m args below meth c D cl A nL Q ws' k n (pc + 1) lv (st)) : zn_Z p l e R s m args below meth c D cl A nL Q ws k n pc lv (.long x :: .int i :: .ref a :: st) :=
  fun H locs ls hP hD hS hl => va_last C.1.1 C.1.2.1 C.2.1 hP hD hS q0 t0 he ht hin hdg (fun H1 locs1 hP1 hD1 hS1 => kk H1 locs1 ls (by rw [← hw]; exact hP1) (by rw [← hw]; exact hD1) hS1 hl)
theorem zn_aast (C : zn_C p s m args meth c cc nL Ts own D cl tys A) (q0 t0 qk ci : Nat) {a : Nat} {cA : ClassId} {r : vw_C} {N v : Nat} {vs : List Value} {f : Nat → Option Nat} (ha : ws[q0]? = some (a, .inl (cA, N, .inr (.inr (.inr (.inr f)))))) (ht : tys[t0]? = some (cA, .object r.1)) (hv : ws[qk]? = some (v, .inr (ci, vs))) (hc : cl[ci]? = some r) {i : Int32} (hin : vp_in i N) (hw : ws.set q0 (a, .inl (cA, N, .inr (.inr (.inr (.inr (va_up f i.toNatClampNeg (some v))))))) = ws') (hdg : decode cc pc = .ok (.aastore, 1))
    (kk : zn_Z p l e R s m args below meth c D cl A nL Q ws' k n (pc + 1) lv (st)) : zn_Z p l e R s m args below meth c D cl A nL Q ws k n pc lv (.ref v :: .int i :: .ref a :: st) :=
  fun H locs ls hP hD hS hl => va_astq C.1.1 C.1.2.1 C.2.1 hP hD hS q0 t0 qk ci ha ht hv hc hin hdg (fun H1 locs1 hP1 hD1 hS1 => kk H1 locs1 ls (by rw [← hw]; exact hP1) (by rw [← hw]; exact hD1) hS1 hl)
theorem zn_new (C : zn_C p s m args meth c cc nL Ts own D cl tys A) {Cn : String} {T : u_T} {NF ci index : Nat} (hin : ∀ w ∈ u_ws Cn T NF, w ∈ Ts) (ty : Nat → FieldType) (hty : ∀ k, k < NF → parseFieldDescriptor (T k).2.2.1 = some (ty k)) (hcl : Cond.classLink own index Cn ∈ Ts) (hinst : Cond.instantiable Cn NF ∈ Ts) (hini : Cond.initialized Cn ∈ Ts) (hc : cl[ci]? = some (Cn, T, NF)) {fs : List Value} (hfs : ∀ j, j < NF → defaultValue (ty j) = vp_V fs j) (hcells : k + 1 ≤ R.cells) (hslots : n + NF ≤ R.slots) (hdg : decode cc pc = .ok (.new index, 3))
    (kk : ∀ q : Nat, zn_Z p l e R s m args below meth c D cl A nL Q (ws ++ [(q, .inr (ci, fs))]) (k + 1) (n + NF) (pc + 3) lv (.ref q :: st)) : zn_Z p l e R s m args below meth c D cl A nL Q ws k n pc lv (st) :=
  fun H locs ls hP hD hS hl => va_new C.1.1 C.1.2.1 C.1.2.2.2.2 hin ty hty C.1.2.2.2.1 (C.1.2.2.2.2 _ hcl) (C.1.2.2.2.2 _ hinst) (C.1.2.2.2.2 _ hini) C.2.1 hP hD hS C.2.2.1 hc hfs hcells hslots hdg (fun q H1 hP1 hD1 hS1 => kk q H1 locs ls hP1 hD1 hS1 hl)
theorem zn_newa (C : zn_C p s m args meth c cc nL Ts own D cl tys A) {atype : ArrayType} {ty : FieldType} (harr : Cond.arrayClass (newarray.typeOf atype) ∈ Ts) (hty : newarray.typeOf atype = ty) (t0 : Nat) {cA : ClassId} (ht : tys[t0]? = some (cA, ty)) {i : Int32} {N : Nat} {a0 : vp_A} (ha : ∀ cA : ClassId, vp_cell cA a0 = arrV cA N (fun _ => defaultValue ty)) (hn : ¬ i < 0) (hN : i.toNatClampNeg = N) (hbytes : N * componentBytes ty ≤ 536870912) (hcells : k + 1 ≤ R.cells) (hslots : n + N ≤ R.slots) (hdg : decode cc pc = .ok (.newarray atype, 2))
    (kk : ∀ q : Nat, zn_Z p l e R s m args below meth c D cl A nL Q (ws ++ [(q, .inl (cA, a0))]) (k + 1) (n + N) (pc + 2) lv (.ref q :: st)) : zn_Z p l e R s m args below meth c D cl A nL Q ws k n pc lv (.int i :: st) :=
  fun H locs ls hP hD hS hl => va_newa C.1.1 C.1.2.1 (C.1.2.2.2.2 _ harr) hty C.2.1 hP hD hS C.2.2.1 ha hn hN hbytes hcells hslots hdg (fun q cB H1 hK1 hP1 hD1 hS1 => by
    have h1 := (hK1.2 tys.length (cB, ty) (by rw [List.getElem?_append_right (Nat.le_refl _), Nat.sub_self]; rfl)).2
    have h2 := (C.2.1.2 t0 _ ht).2
    have h3 : cB = cA := zn_uniq h1 h2
    subst h3
    exact kk q H1 locs ls hP1 hD1 hS1 hl)
theorem zn_newq (C : zn_C p s m args meth c cc nL Ts own D cl tys A) {Cn : String} {index : Nat} (hclink : Cond.classLink own index Cn ∈ Ts) (hover : va_AO Cn s) (t0 : Nat) {cA : ClassId} (ht : tys[t0]? = some (cA, .object Cn)) {i : Int32} {N : Nat} (hn : ¬ i < 0) (hN : i.toNatClampNeg = N) (hbytes : N * 4 ≤ 536870912) (hcells : k + 1 ≤ R.cells) (hslots : n + N ≤ R.slots) (hdg : decode cc pc = .ok (.anewarray index, 3))
    (kk : ∀ q : Nat, zn_Z p l e R s m args below meth c D cl A nL Q (ws ++ [(q, .inl (cA, N, .inr (.inr (.inr (.inr (fun _ => none))))))]) (k + 1) (n + N) (pc + 3) lv (.ref q :: st)) : zn_Z p l e R s m args below meth c D cl A nL Q ws k n pc lv (.int i :: st) :=
  fun H locs ls hP hD hS hl => va_newq C.1.1 C.1.2.1 C.1.2.2.2.1 (C.1.2.2.2.2 _ hclink) hover C.2.1 hP hD hS C.2.2.1 hn hN hbytes hcells hslots hdg (fun q cB H1 hK1 hP1 hD1 hS1 => by
    have h1 := (hK1.2 tys.length (cB, .object Cn) (by rw [List.getElem?_append_right (Nat.le_refl _), Nat.sub_self]; rfl)).2
    have h2 := (C.2.1.2 t0 _ ht).2
    have h3 : cB = cA := zn_uniq h1 h2
    subst h3
    exact kk q H1 locs ls hP1 hD1 hS1 hl)
theorem zn_objInit (C : zn_C p s m args meth c cc nL Ts own D cl tys A) {index a : Nat} (hlink : Cond.methodLink own index Lib.objectInit ∈ Ts) (hinst : Cond.instanceMethod Lib.objectInit ∈ Ts) (hcode : Cond.code Lib.objectInit ⟨#[0xb1]⟩ 1 none ∈ Ts) (hfr : 1 ≤ R.frames) (hlo : (st.map fun v => v.category).sum + 12 ≤ R.locals) (hdg : decode cc pc = .ok (.invokespecial index, 3))
    (kk : zn_Z p l e R s m args below meth c D cl A nL Q ws k n (pc + 3) lv (st)) : zn_Z p l e R s m args below meth c D cl A nL Q ws k n pc lv (.ref a :: st) :=
  fun H locs ls hP hD hS hl => W.objInit C.1.1 C.1.2.1 C.1.2.2.2.1 (C.1.2.2.2.2 _ hlink) (C.1.2.2.2.2 _ hinst) (C.1.2.2.2.2 _ hcode) rfl (by rw [C.1.2.2.1]; exact hl.1) rfl hdg hfr (by show 2 * 0 + _ + 12 ≤ _; omega) (W.eq (g2 := F0 m (pc + 3) ls st) rfl (kk H locs ls hP hD hS hl))
/-- fewer locals, or in another order -/
theorem zn_sub (ks : List Nat) (hks : lv_pick lv ks = lv') (kk : zn_Z p l e R s m args below meth c D cl A nL Q ws k n pc lv' (st)) : zn_Z p l e R s m args below meth c D cl A nL Q ws k n pc lv (st) :=
  fun H locs ls hP hD hS hl => kk H locs ls hP hD hS (lv_sub hl ks hks)
theorem zn_widen {k' n' : Nat} (hk : k ≤ k') (hn : n ≤ n') (kk : zn_Z p l e R s m args below meth c D cl A nL Q ws k' n' pc lv (st)) : zn_Z p l e R s m args below meth c D cl A nL Q ws k n pc lv (st) :=
  fun H locs ls hP hD hS hl => W.widen hk hn (kk H locs ls hP hD hS hl)
/-- the cells told otherwise -/
theorem zn_world (hw : ∀ H, va_P D cl ws H → va_P D cl ws' H) (hd : va_D A ws → va_D A ws') (kk : zn_Z p l e R s m args below meth c D cl A nL Q ws' k n pc lv (st)) : zn_Z p l e R s m args below meth c D cl A nL Q ws k n pc lv (st) :=
  fun H locs ls hP hD hS hl => kk H locs ls (hw H hP) (hd hD) hS hl
theorem zn_vret (C : zn_C p s m args meth c cc nL Ts own D cl tys A) (hr : meth.sig.returnType = none) {w0 : va_W} {P : Option Value → va_W → Prop} (hp : P none ws) (hdg : decode cc pc = .ok (.return_, 1)) : zn_Z p l e R s m args below meth c D cl (va_A w0 s.heap.size) nL (MQ below (zn_Q D cl w0 s.heap.size P) args s k n (va_A w0 s.heap.size)) ws k n pc lv [] :=
  fun H locs ls hP hD hS hl => W.vret C.1.1 C.1.2.1 hr (fun t ht hW => ⟨⟨none, ws, rfl, hp, by rw [ht]; exact hP, hD⟩, hS.F ht⟩) hS.2.2 hdg C.2.2.2
/-- behind a call -/
theorem zn_back (C : zn_C p s m args meth c cc nL Ts own D cl tys A) {wl w0 wr : va_W} {P : Option Value → va_W → Prop} {Qa : State → Outcome → State → Prop} {free : Addr → Prop} {mc ms : Nat} {H : Heap} {locs : List Loc} {ls : Array Slot} {st0 : List Value} (hP : va_P D cl (wl ++ (w0 ++ wr)) H) (hD : va_D A (wl ++ (w0 ++ wr))) (hS : va_S A s.heap H locs) (hl : lv_has ls nL lv)
    (hr : va_Run p l e R s m args below meth c H locs k n mc ms (F0 m pc ls st0) rest Qa free)
    (hQ : ∀ (st : State) (v : Option Value) (t : State), st.heap = H → Qa st (.returned v) t → ∃ w1, P v w1 ∧ va_P D cl w1 t.heap ∧ va_D (va_A w0 H.size) w1 ∧ va_F (va_A w0 H.size) st t) (hf : ∀ q, free q → va_A w0 H.size q)
    (kk : ∀ (v : Option Value) (w1 : va_W), P v w1 → zn_Z p l e R s m args below meth c D cl A nL Q (wl ++ (w1 ++ wr)) (k + mc) (n + ms) (pc + 3) lv (v.toList ++ rest)) : W p l e R s m args below meth c H locs k n Q (F0 m pc ls st0) := by
  intro T hT X
  obtain ⟨v, st₀, t, T', L, h0, X', hL, e1, e2, hq, st⟩ := hr T hT X
  obtain ⟨w1, hp, hP1, hD1, hz, hk⟩ := hQ st₀ v t h0 hq
  rw [h0] at hz hk
  have hA : ∀ q, va_A w0 H.size q → A q := fun q h => by
    rcases zn_Am.mp h with ⟨e, he⟩ | h
    · exact (zn_Dm.mp hD).2 (q, e) (List.mem_append_right _ (List.mem_append_left _ he))
    · exact C.2.2.1 q (Nat.le_trans hS.1 h)
  obtain ⟨hP2, hD2⟩ := zn_join hP hD hA hk hP1 hD1
  obtain ⟨t2, a1, b1⟩ := kk v w1 hp T'.heap (locs ++ L) ls (by rw [e1]; exact hP2) hD2
    ⟨Nat.le_trans hS.1 (by rw [e1]; exact hz), fun q h1 h2 => by rw [e1, hk q (Nat.lt_of_lt_of_le h1 hS.1) (fun z => h2 (hA q z))]; exact hS.2.1 q h1 h2, fun q hq => by
      rcases List.mem_append.mp hq with h | h
      · exact hS.2.2 q h
      · exact hA _ (hf _ (hL q h))⟩ hl T' rfl X'
  exact ⟨t2, st t2 a1, b1⟩
theorem zn_mid {wl w0 wr : va_W} {H : Heap} (h : va_P D cl (wl ++ (w0 ++ wr)) H) : va_P D cl w0 H := zn_Pm.mpr fun q hq => zn_Pm.mp h q (List.mem_append_right _ (List.mem_append_left _ hq))
theorem zn_midD {wl w0 wr : va_W} (h : va_D A (wl ++ (w0 ++ wr))) : va_D (fun _ => True) w0 := by
  have h1 := (zn_Dm.mp h).1
  rw [List.pairwise_append, List.pairwise_append] at h1
  exact zn_Dm.mpr ⟨h1.2.1.1, fun _ _ => trivial⟩
theorem zn_blind {av : List Value} {w0 : va_W} {X : State → Prop} {sz : Nat} (hX : ∀ (U V : State), U.vm = V.vm → X U → X V) : FrameBlind (va_Pc av (fun U => U.heap.size = sz ∧ va_P D cl w0 U.heap ∧ va_K D cl tys U ∧ va_D (fun _ => True) w0 ∧ X U)) :=
  fun a U g mk q => by obtain ⟨q0, q1, qP, qK, qD, qX⟩ := q; exact ⟨q0, q1, qP, va_K.moved (u := U) (U := U.calling g mk a) (Vm.Alike.refl U.vm) qK, qD, hX U _ rfl qX⟩
/-- a maker is called: invokespecial -/
theorem zn_callI (C : zn_C p s m args meth c cc nL Ts own D cl tys A) {tys1 : List (ClassId × FieldType)} {X : State → Prop} {y : MethodName} {wsC : List Cond} {rm : Room} {a i0 index maxL mc ms : Nat} {As : List Value} {bytes : ByteArray} {wl w0 wr : va_W} {P : Option Value → va_W → Prop} (hM : zn_M l D cl tys1 X y wsC rm (.ref a :: As) w0 P mc ms) (hty : va_K D cl tys s → va_K D cl tys1 s) (hXb : ∀ (U V : State), U.vm = V.vm → X U → X V) (hXw : ∀ U : State, s.WarmedH U.vm → X U) (cw : CallB R s args own index y bytes maxL none wsC rm mc ms i0 ∧ y.name = "<init>" ∧ (Cond.instanceMethod y).before args s = true) (hn : As.length = i0) {st0 : List Value} (hst : st0 = As.reverse ++ .ref a :: rest) (hW : (rest.map fun v => v.category).sum ≤ 8) (hdg : decode cc pc = .ok (.invokespecial index, 3)) (hcs : k + mc ≤ R.cells ∧ n + ms ≤ R.slots) (hw : ws = wl ++ (w0 ++ wr))
    (kk : ∀ (v : Option Value) (w1 : va_W), P v w1 → zn_Z p l e R s m args below meth c D cl A nL Q (wl ++ (w1 ++ wr)) (k + mc) (n + ms) (pc + 3) lv (v.toList ++ rest)) : zn_Z p l e R s m args below meth c D cl A nL Q ws k n pc lv (st0) := by
  subst hw
  intro H locs ls hP hD hS hl
  refine zn_back C hP hD hS hl (va_runI C.1 (hM H.size) cw ⟨zn_blind hXb, fun U hU hW => ⟨rfl, by rw [hU], by rw [hU]; exact zn_mid hP, va_K.moved hW.alike (hty C.2.1), zn_midD hD, hXw U hW⟩⟩ rfl hn hl.1 hst (lv_room hW) hdg hcs) ?_ (fun _ h => h) kk
  intro st v t h0 hq
  obtain ⟨⟨v1, w1, hv, hp, hP1, hD1⟩, hF⟩ := hq
  obtain rfl := Outcome.returned.inj hv
  exact ⟨w1, hp, hP1, hD1, hF⟩
theorem zn_callIN (C : zn_C p s m args meth c cc nL Ts own D cl tys A) {tys1 : List (ClassId × FieldType)} {X : State → Prop} {y : MethodName} {host : String} {wsC : List Cond} {rm : Room} {a i0 index maxL mc ms : Nat} {As : List Value} {bytes : ByteArray} {wl w0 wr : va_W} {P : Option Value → va_W → Prop} (hM : zn_M l D cl tys1 X y wsC rm (.ref a :: As) w0 P mc ms) (hty : va_K D cl tys s → va_K D cl tys1 s) (hXb : ∀ (U V : State), U.vm = V.vm → X U → X V) (hXw : ∀ U : State, s.WarmedH U.vm → X U) (cw : va_CN R s args own index y host bytes maxL none wsC rm mc ms i0 ∧ y.name = "<init>" ∧ (Cond.instanceMethod y).before args s = true) (hn : As.length = i0) {st0 : List Value} (hst : st0 = As.reverse ++ .ref a :: rest) (hW : (rest.map fun v => v.category).sum ≤ 8) (hdg : decode cc pc = .ok (.invokespecial index, 3)) (hcs : k + mc ≤ R.cells ∧ n + ms ≤ R.slots) (hw : ws = wl ++ (w0 ++ wr))
    (kk : ∀ (v : Option Value) (w1 : va_W), P v w1 → zn_Z p l e R s m args below meth c D cl A nL Q (wl ++ (w1 ++ wr)) (k + mc) (n + ms) (pc + 3) lv (v.toList ++ rest)) : zn_Z p l e R s m args below meth c D cl A nL Q ws k n pc lv (st0) := by
  subst hw
  intro H locs ls hP hD hS hl
  refine zn_back C hP hD hS hl (va_runIN C.1 (hM H.size) cw ⟨zn_blind hXb, fun U hU hW => ⟨rfl, by rw [hU], by rw [hU]; exact zn_mid hP, va_K.moved hW.alike (hty C.2.1), zn_midD hD, hXw U hW⟩⟩ rfl hn hl.1 hst (lv_room hW) hdg hcs) ?_ (fun _ h => h) kk
  intro st v t h0 hq
  obtain ⟨⟨v1, w1, hv, hp, hP1, hD1⟩, hF⟩ := hq
  obtain rfl := Outcome.returned.inj hv
  exact ⟨w1, hp, hP1, hD1, hF⟩
theorem zn_A {N : Nat} {ad : Nat → Nat} {cf : Nat → va_E} {sz q : Nat} : zs_A N ad sz q ↔ va_A (zs_wl N ad cf) sz q := by
  constructor
  · intro h
    rcases h with ⟨i, hi, rfl⟩ | h
    · exact Or.inl ⟨i, cf i, zs_wl_get hi⟩
    · exact Or.inr h
  · intro h
    rcases h with ⟨i, e, hi⟩ | h
    · obtain ⟨h1, h2⟩ := zs_wl_of hi
      exact Or.inl ⟨i, h1, congrArg Prod.fst h2⟩
    · exact Or.inr h
theorem zn_F {A B : Nat → Prop} {u t : State} (h : va_F A u t) (hab : ∀ q, A q → B q) : va_F B u t := ⟨h.1, fun q h1 h2 => h.2 q h1 (fun z => h2 (hab q z))⟩
theorem zn_callVi (C : zn_C p s m args meth c cc nL Ts own D cl tys A) {tys1 : List (ClassId × FieldType)} {N : Nat} {ad : Nat → Nat} {wf : zs_T → Nat → va_E} {σ : zs_T} {out1 : zs_O} {y : MethodName} {wsC : List Cond} {rm : Room} {q0 ci i0 index maxL : Nat} {As : List Value} {bytes : ByteArray} {ret : Option FieldType} {fs : List Value} {q1 : vw_C} {wl wr : va_W} (hM : zs_M l D cl tys1 N ad wf y wsC rm (.ref (ad q0) :: As) zs_vi σ out1) (hJ : zs_J N ad) (hty : va_K D cl tys s → va_K D cl tys1 s) (cw : CallW R s args own q1.1 index y bytes maxL ret wsC rm 0 0 i0) (hq : q0 < N ∧ wf σ q0 = .inr (ci, fs)) (hc : cl[ci]? = some q1) (hn : As.length = i0) {st0 : List Value} (hst : st0 = As.reverse ++ .ref (ad q0) :: rest) (hW : (rest.map fun v => v.category).sum ≤ 8) (hdg : decode cc pc = .ok (.invokevirtual index, 3)) (hcs : k ≤ R.cells ∧ n ≤ R.slots) (hw : ws = wl ++ (zs_wl N ad (wf σ) ++ wr))
    (kk : zn_Z p l e R s m args below meth c D cl A nL Q (wl ++ (zs_wl N ad (wf out1.1) ++ wr)) k n (pc + 3) lv (.int out1.2 :: rest)) : zn_Z p l e R s m args below meth c D cl A nL Q ws k n pc lv (st0) := by
  subst hw
  intro H locs ls hP hD hS hl
  have hPm := zn_mid hP
  refine zn_back (mc := 0) (ms := 0) (P := fun v w1 => v = zs_vi out1.2 ∧ w1 = zs_wl N ad (wf out1.1)) C hP hD hS hl (va_runV C.1 (hM H.size) cw ⟨zs_blind, va_recv C.2.1 hPm hc (by rw [zs_wl_get hq.1, hq.2]), fun U hU hW => ⟨rfl, by rw [hU], by rw [hU]; exact hPm, va_K.moved hW.alike (hty C.2.1)⟩⟩ rfl hn hl.1 hst (lv_room hW) hdg hcs) ?_ (fun _ h => zn_A.mp h) ?_
  · intro st v t h0 hq
    obtain ⟨⟨hv, hP1⟩, hF⟩ := hq
    obtain rfl := Outcome.returned.inj hv
    refine ⟨_, ⟨rfl, rfl⟩, hP1, ?_, zn_F hF (fun _ h => zn_A.mp h)⟩
    have h1 := zs_D (sz := H.size) (cf := wf out1.1) hJ
    exact ⟨h1.1, fun k q hk => zn_A.mp (h1.2 k q hk)⟩
  · rintro v w1 ⟨rfl, rfl⟩
    exact kk
theorem zn_callSi (C : zn_C p s m args meth c cc nL Ts own D cl tys A) {tys1 : List (ClassId × FieldType)} {N : Nat} {ad : Nat → Nat} {wf : zs_T → Nat → va_E} {σ : zs_T} {out1 : zs_O} {y : MethodName} {wsC : List Cond} {rm : Room} {i0 index maxL : Nat} {As : List Value} {bytes : ByteArray} {ret : Option FieldType} {wl wr : va_W} (hM : zs_M l D cl tys1 N ad wf y wsC rm As zs_vi σ out1) (hJ : zs_J N ad) (hty : va_K D cl tys s → va_K D cl tys1 s) (cw : CallB R s args own index y bytes maxL ret wsC rm 0 0 i0 ∧ (Cond.static y).before args s = true) (hn : As.length = i0) {st0 : List Value} (hst : st0 = As.reverse ++ rest) (hW : (rest.map fun v => v.category).sum ≤ 8) (hdg : decode cc pc = .ok (.invokestatic index, 3)) (hcs : k ≤ R.cells ∧ n ≤ R.slots) (hw : ws = wl ++ (zs_wl N ad (wf σ) ++ wr))
    (kk : zn_Z p l e R s m args below meth c D cl A nL Q (wl ++ (zs_wl N ad (wf out1.1) ++ wr)) k n (pc + 3) lv (.int out1.2 :: rest)) : zn_Z p l e R s m args below meth c D cl A nL Q ws k n pc lv (st0) := by
  subst hw
  intro H locs ls hP hD hS hl
  have hPm := zn_mid hP
  refine zn_back (mc := 0) (ms := 0) (P := fun v w1 => v = zs_vi out1.2 ∧ w1 = zs_wl N ad (wf out1.1)) C hP hD hS hl (va_runS C.1 (hM H.size) cw ⟨zs_blind, fun U hU hW => ⟨rfl, by rw [hU], by rw [hU]; exact hPm, va_K.moved hW.alike (hty C.2.1)⟩⟩ rfl hn hl.1 hst (lv_room hW) hdg hcs) ?_ (fun _ h => zn_A.mp h) ?_
  · intro st v t h0 hq
    obtain ⟨⟨hv, hP1⟩, hF⟩ := hq
    obtain rfl := Outcome.returned.inj hv
    refine ⟨_, ⟨rfl, rfl⟩, hP1, ?_, zn_F hF (fun _ h => zn_A.mp h)⟩
    have h1 := zs_D (sz := H.size) (cf := wf out1.1) hJ
    exact ⟨h1.1, fun k q hk => zn_A.mp (h1.2 k q hk)⟩
  · rintro v w1 ⟨rfl, rfl⟩
    exact kk
theorem zn_callVv (C : zn_C p s m args meth c cc nL Ts own D cl tys A) {tys1 : List (ClassId × FieldType)} {N : Nat} {ad : Nat → Nat} {wf : zs_T → Nat → va_E} {σ : zs_T} {out1 : zs_O} {y : MethodName} {wsC : List Cond} {rm : Room} {q0 ci i0 index maxL : Nat} {As : List Value} {bytes : ByteArray} {ret : Option FieldType} {fs : List Value} {q1 : vw_C} {wl wr : va_W} (hM : zs_M l D cl tys1 N ad wf y wsC rm (.ref (ad q0) :: As) zs_vv σ out1) (hJ : zs_J N ad) (hty : va_K D cl tys s → va_K D cl tys1 s) (cw : CallW R s args own q1.1 index y bytes maxL ret wsC rm 0 0 i0) (hq : q0 < N ∧ wf σ q0 = .inr (ci, fs)) (hc : cl[ci]? = some q1) (hn : As.length = i0) {st0 : List Value} (hst : st0 = As.reverse ++ .ref (ad q0) :: rest) (hW : (rest.map fun v => v.category).sum ≤ 8) (hdg : decode cc pc = .ok (.invokevirtual index, 3)) (hcs : k ≤ R.cells ∧ n ≤ R.slots) (hw : ws = wl ++ (zs_wl N ad (wf σ) ++ wr))
    (kk : zn_Z p l e R s m args below meth c D cl A nL Q (wl ++ (zs_wl N ad (wf out1.1) ++ wr)) k n (pc + 3) lv (rest)) : zn_Z p l e R s m args below meth c D cl A nL Q ws k n pc lv (st0) := by
  subst hw
  intro H locs ls hP hD hS hl
  have hPm := zn_mid hP
  refine zn_back (mc := 0) (ms := 0) (P := fun v w1 => v = zs_vv out1.2 ∧ w1 = zs_wl N ad (wf out1.1)) C hP hD hS hl (va_runV C.1 (hM H.size) cw ⟨zs_blind, va_recv C.2.1 hPm hc (by rw [zs_wl_get hq.1, hq.2]), fun U hU hW => ⟨rfl, by rw [hU], by rw [hU]; exact hPm, va_K.moved hW.alike (hty C.2.1)⟩⟩ rfl hn hl.1 hst (lv_room hW) hdg hcs) ?_ (fun _ h => zn_A.mp h) ?_
  · intro st v t h0 hq
    obtain ⟨⟨hv, hP1⟩, hF⟩ := hq
    obtain rfl := Outcome.returned.inj hv
    refine ⟨_, ⟨rfl, rfl⟩, hP1, ?_, zn_F hF (fun _ h => zn_A.mp h)⟩
    have h1 := zs_D (sz := H.size) (cf := wf out1.1) hJ
    exact ⟨h1.1, fun k q hk => zn_A.mp (h1.2 k q hk)⟩
  · rintro v w1 ⟨rfl, rfl⟩
    exact kk
theorem zn_callSv (C : zn_C p s m args meth c cc nL Ts own D cl tys A) {tys1 : List (ClassId × FieldType)} {N : Nat} {ad : Nat → Nat} {wf : zs_T → Nat → va_E} {σ : zs_T} {out1 : zs_O} {y : MethodName} {wsC : List Cond} {rm : Room} {i0 index maxL : Nat} {As : List Value} {bytes : ByteArray} {ret : Option FieldType} {wl wr : va_W} (hM : zs_M l D cl tys1 N ad wf y wsC rm As zs_vv σ out1) (hJ : zs_J N ad) (hty : va_K D cl tys s → va_K D cl tys1 s) (cw : CallB R s args own index y bytes maxL ret wsC rm 0 0 i0 ∧ (Cond.static y).before args s = true) (hn : As.length = i0) {st0 : List Value} (hst : st0 = As.reverse ++ rest) (hW : (rest.map fun v => v.category).sum ≤ 8) (hdg : decode cc pc = .ok (.invokestatic index, 3)) (hcs : k ≤ R.cells ∧ n ≤ R.slots) (hw : ws = wl ++ (zs_wl N ad (wf σ) ++ wr))
    (kk : zn_Z p l e R s m args below meth c D cl A nL Q (wl ++ (zs_wl N ad (wf out1.1) ++ wr)) k n (pc + 3) lv (rest)) : zn_Z p l e R s m args below meth c D cl A nL Q ws k n pc lv (st0) := by
  subst hw
  intro H locs ls hP hD hS hl
  have hPm := zn_mid hP
  refine zn_back (mc := 0) (ms := 0) (P := fun v w1 => v = zs_vv out1.2 ∧ w1 = zs_wl N ad (wf out1.1)) C hP hD hS hl (va_runS C.1 (hM H.size) cw ⟨zs_blind, fun U hU hW => ⟨rfl, by rw [hU], by rw [hU]; exact hPm, va_K.moved hW.alike (hty C.2.1)⟩⟩ rfl hn hl.1 hst (lv_room hW) hdg hcs) ?_ (fun _ h => zn_A.mp h) ?_
  · intro st v t h0 hq
    obtain ⟨⟨hv, hP1⟩, hF⟩ := hq
    obtain rfl := Outcome.returned.inj hv
    refine ⟨_, ⟨rfl, rfl⟩, hP1, ?_, zn_F hF (fun _ h => zn_A.mp h)⟩
    have h1 := zs_D (sz := H.size) (cf := wf out1.1) hJ
    exact ⟨h1.1, fun k q hk => zn_A.mp (h1.2 k q hk)⟩
  · rintro v w1 ⟨rfl, rfl⟩
    exact kk
end ZNR
/-- a maker's contract from a walk of the body -/
theorem zn_ofZ {l : Launch} {D : va_G} {cl : List vw_C} {tys : List (ClassId × FieldType)} {X : State → Prop} {y : MethodName} {ws ws' : List Cond} {rm : Room} {av : List Value} {w0 : va_W} {P : Option Value → va_W → Prop} {mc ms : Nat} {cc : ByteArray} {nL : Nat} {ret : Option FieldType} {lv0 : List (Nat × Value)} (hy : plainName y.cls = true) (hw : ws = Cond.code y cc nL ret :: ws') (hav : (lg_sl av).length ≤ nL) (hlv : lv_args 0 av = lv0)
    (body : ∀ (p : Program) (e : Env) (s : State) (m : MethodId) (args : Array Value) (below : List Frame) (meth : Method) (c : Code), zn_C p s m args meth c cc nL ws y.cls D cl tys (va_A w0 s.heap.size) → meth.sig.returnType = ret → meth.name = y.name → X s → zn_Z p l e rm s m args below meth c D cl (va_A w0 s.heap.size) nL (MQ below (zn_Q D cl w0 s.heap.size P) args s mc ms (va_A w0 s.heap.size)) w0 0 0 0 lv0 []) : zn_M l D cl tys X y ws rm av w0 P mc ms := by
  intro sz
  refine Met.ofW (cc := cc) (maxL := nL) (ret := ret) hy hw ?_
  intro p e s m args below meth c s₁ B hml hv
  obtain ⟨rfl, hsz, hP, hK, hD, hX⟩ := hv
  subst hsz
  subst hlv
  have hl := lv_entry av (n := nL) hav
  rw [lg_entry_eq]
  exact body p e s m av.toArray below meth c ⟨⟨B.exec, B.bytes, hml, findClass_of_methodNamed B.named, atoms_spec (ws := ws) B.pre⟩, hK, fun q h => Or.inr h, B.notSynchronized⟩ B.returns (name_of_methodNamed B.named B.method).1 hX s.heap [] _ hP hD.self va_S.rf hl
