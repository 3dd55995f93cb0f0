/-! THE JUDGEMENT zs_Z: the kit's W with the heap told by a pure state; a row an instruction. -/
abbrev zs_T : Type := Nat → Nat → Int32
def zs_u (σ : zs_T) (c k : Nat) (v : Int32) : zs_T := fun a b => if a = c ∧ b = k then v else σ a b
def zs_wl (N : Nat) (ad : Nat → Nat) (cf : Nat → va_E) : va_W := (List.range N).map (fun i => (ad i, cf i))
theorem zs_wl_len {N : Nat} {ad : Nat → Nat} {cf : Nat → va_E} : (zs_wl N ad cf).length = N := by simp [zs_wl]
theorem zs_wl_get {N : Nat} {ad : Nat → Nat} {cf : Nat → va_E} {i : Nat} (h : i < N) : (zs_wl N ad cf)[i]? = some (ad i, cf i) := by simp [zs_wl, h]
theorem zs_wl_of {N : Nat} {ad : Nat → Nat} {cf : Nat → va_E} {k : Nat} {q : Nat × va_E} (h : (zs_wl N ad cf)[k]? = some q) : k < N ∧ q = (ad k, cf k) := by
  have hk : k < N := by
    have h2 := (List.getElem?_eq_some_iff.mp h).1
    rwa [zs_wl_len] at h2
  rw [zs_wl_get hk] at h
  exact ⟨hk, (Option.some.inj h).symm⟩
/-- the state σ' is σ with the cell q holding e -/
def zs_S (N : Nat) (wf : zs_T → Nat → va_E) (σ : zs_T) (q : Nat) (e : va_E) (σ' : zs_T) : Prop := q < N ∧ wf σ' q = e ∧ ∀ i, i < N → i ≠ q → wf σ' i = wf σ i
theorem zs_wl_set {N : Nat} {ad : Nat → Nat} {wf : zs_T → Nat → va_E} {σ σ' : zs_T} {q : Nat} {e : va_E} (h : zs_S N wf σ q e σ') : (zs_wl N ad (wf σ)).set q (ad q, e) = zs_wl N ad (wf σ') := by
  obtain ⟨hq, he, ho⟩ := h
  apply List.ext_getElem?
  intro i
  by_cases hi : i < N
  · by_cases hiq : i = q
    · subst hiq
      rw [zs_wl_get hi, List.getElem?_set_self (by rw [zs_wl_len]; exact hi), he]
    · rw [zs_wl_get hi, List.getElem?_set_ne (Ne.symm hiq), zs_wl_get hi, ho i hi hiq]
  · rw [List.getElem?_eq_none (by rw [List.length_set, zs_wl_len]; omega), List.getElem?_eq_none (by rw [zs_wl_len]; omega)]
def zs_A (N : Nat) (ad : Nat → Nat) (sz : Nat) : Nat → Prop := fun q => (∃ k, k < N ∧ q = ad k) ∨ sz ≤ q
theorem zs_A.mono {N : Nat} {ad : Nat → Nat} {a b q : Nat} (h : a ≤ b) (hq : zs_A N ad b q) : zs_A N ad a q := by
  rcases hq with h1 | h1
  · exact Or.inl h1
  · exact Or.inr (Nat.le_trans h h1)
def zs_J (N : Nat) (ad : Nat → Nat) : Prop := ∀ i j, i < N → j < N → ad i = ad j → i = j
theorem zs_D {N : Nat} {ad : Nat → Nat} {sz : Nat} {cf : Nat → va_E} (h : zs_J N ad) : va_D (zs_A N ad sz) (zs_wl N ad cf) := by
  refine ⟨fun i j p q hi hj hpq => ?_, fun k q hk => ?_⟩
  · obtain ⟨h1, rfl⟩ := zs_wl_of hi
    obtain ⟨h2, rfl⟩ := zs_wl_of hj
    exact h i j h1 h2 hpq
  · obtain ⟨h1, rfl⟩ := zs_wl_of hk
    exact Or.inl ⟨k, h1, rfl⟩
/-- what a method comes to: the state behind it, and its answer (0 where it has none) -/
abbrev zs_O : Type := zs_T × Int32
def zs_vi (r : Int32) : Option Value := some (.int r)
def zs_vv (_ : Int32) : Option Value := none
def zs_Q (D : va_G) (cl : List vw_C) (N : Nat) (ad : Nat → Nat) (wf : zs_T → Nat → va_E) (sz : Nat) (ov : Int32 → Option Value) (out : zs_O) : Array Value → State → Outcome → State → Prop := fun _ st oc t => (oc = .returned (ov out.2) ∧ va_P D cl (zs_wl N ad (wf out.1)) t.heap) ∧ va_F (zs_A N ad sz) st t
def zs_Z (p : Program) (l : Launch) (e : Env) (R : Room) (s : State) (m : MethodId) (args : Array Value) (below : List Frame) (meth : Method) (c : Code) (D : va_G) (cl : List vw_C) (N : Nat) (ad : Nat → Nat) (wf : zs_T → Nat → va_E) (nL : Nat) (ov : Int32 → Option Value) (out : zs_O) (σ : zs_T) (pc : Nat) (lv : List (Nat × Value)) (st : List Value) : Prop :=
  ∀ (H : Heap) (locs : List Loc) (ls : Array Slot), va_P D cl (zs_wl N ad (wf σ)) H → va_S (zs_A N ad s.heap.size) s.heap H locs → lv_has ls nL lv → W p l e R s m args below meth c H locs 0 0 (MQ below (zs_Q D cl N ad wf s.heap.size ov out) args s 0 0 (zs_A N ad s.heap.size)) (F0 m pc ls st)
def zs_C (p : Program) (s : State) (m : MethodId) (args : Array Value) (meth : Method) (c : Code) (cc : ByteArray) (nL : Nat) (Ts : List Cond) (own : String) (D : va_G) (cl : List vw_C) (tys : List (ClassId × FieldType)) (N : Nat) (ad : Nat → Nat) : Prop := CallFix p m c cc nL s args Ts own ∧ va_K D cl tys s ∧ zs_J N ad ∧ meth.locks = false
/-- a method's contract in these words -/
def zs_M (l : Launch) (D : va_G) (cl : List vw_C) (tys : List (ClassId × FieldType)) (N : Nat) (ad : Nat → Nat) (wf : zs_T → Nat → va_E) (y : MethodName) (ws : List Cond) (rm : Room) (av : List Value) (ov : Int32 → Option Value) (σ : zs_T) (out : zs_O) : Prop :=
  ∀ sz : Nat, Met l y ws rm (va_Pc av (fun U => U.heap.size = sz ∧ va_P D cl (zs_wl N ad (wf σ)) U.heap ∧ va_K D cl tys U)) (zs_Q D cl N ad wf sz ov out) 0 0 (zs_A N ad sz)
section ZSR
variable {p : Program} {l : Launch} {e : Env} {R : Room} {s : State} {m : MethodId} {args : Array Value} {below : List Frame} {meth : Method} {c : Code} {D : va_G} {cl : List vw_C} {tys : List (ClassId × FieldType)} {N : Nat} {ad : Nat → Nat} {wf : zs_T → Nat → va_E} {nL : Nat} {cc : ByteArray} {Ts : List Cond} {own : String} {ov : Int32 → Option Value} {out : zs_O} {σ : zs_T} {pc : Nat} {lv lv' : List (Nat × Value)} {st rest : List Value}
theorem zs_iconst (C : zs_C p s m args meth c cc nL Ts own D cl tys N ad) {n : Int} {v : Int32} (hdg : decode cc pc = .ok (.iconst n, 1)) (hv : Int32.ofInt n = v)
    (kk : zs_Z p l e R s m args below meth c D cl N ad wf nL ov out σ (pc + 1) lv (.int v :: st)) : zs_Z p l e R s m args below meth c D cl N ad wf nL ov out σ pc lv (st) :=
  fun H locs ls hP hS hl => lv_iconst C.1.1 C.1.2.1 hdg hv (kk H locs ls hP hS hl)
theorem zs_bipush (C : zs_C p s m args meth c cc nL Ts own D cl tys N ad) {n : Int} {v : Int32} (hdg : decode cc pc = .ok (.bipush n, 2)) (hv : (Int8.ofInt n).toInt32 = v)
    (kk : zs_Z p l e R s m args below meth c D cl N ad wf nL ov out σ (pc + 2) lv (.int v :: st)) : zs_Z p l e R s m args below meth c D cl N ad wf nL ov out σ pc lv (st) :=
  fun H locs ls hP hS hl => lv_bipush C.1.1 C.1.2.1 hdg hv (kk H locs ls hP hS hl)
theorem zs_sipush (C : zs_C p s m args meth c cc nL Ts own D cl tys N ad) {n : Int} {v : Int32} (hdg : decode cc pc = .ok (.sipush n, 3)) (hv : (Int16.ofInt n).toInt32 = v)
    (kk : zs_Z p l e R s m args below meth c D cl N ad wf nL ov out σ (pc + 3) lv (.int v :: st)) : zs_Z p l e R s m args below meth c D cl N ad wf nL ov out σ pc lv (st) :=
  fun H locs ls hP hS hl => lv_sipush C.1.1 C.1.2.1 hdg hv (kk H locs ls hP hS hl)
theorem zs_ldc (C : zs_C p s m args meth c cc nL Ts own D cl tys N ad) {index : Nat} {v : Int32} (hw : Cond.constant own index v ∈ Ts) (hdg : decode cc pc = .ok (.ldc index, 2))
    (kk : zs_Z p l e R s m args below meth c D cl N ad wf nL ov out σ (pc + 2) lv (.int v :: st)) : zs_Z p l e R s m args below meth c D cl N ad wf nL ov out σ pc lv (st) :=
  fun H locs ls hP hS hl => lv_ldc C.1.1 C.1.2.1 C.1.2.2.2.1 (C.1.2.2.2.2 _ hw) hdg (kk H locs ls hP hS hl)
theorem zs_iload_n (C : zs_C p s m args meth c cc nL Ts own D cl tys N ad) {kf : Fin 4} {i k : Nat} {x : Int32} (hdg : decode cc pc = .ok (.iload_n kf, 1)) (hi : (kf : Nat) = i) (hk : lv[k]? = some (i, .int x))
    (kk : zs_Z p l e R s m args below meth c D cl N ad wf nL ov out σ (pc + 1) lv (.int x :: st)) : zs_Z p l e R s m args below meth c D cl N ad wf nL ov out σ pc lv (st) :=
  fun H locs ls hP hS hl => lv_iload_n C.1.1 C.1.2.1 hdg hi (lv_at hl k hk) (kk H locs ls hP hS hl)
theorem zs_iload (C : zs_C p s m args meth c cc nL Ts own D cl tys N ad) {i k : Nat} {x : Int32} (hdg : decode cc pc = .ok (.iload i, 2)) (hk : lv[k]? = some (i, .int x))
    (kk : zs_Z p l e R s m args below meth c D cl N ad wf nL ov out σ (pc + 2) lv (.int x :: st)) : zs_Z p l e R s m args below meth c D cl N ad wf nL ov out σ pc lv (st) :=
  fun H locs ls hP hS hl => lv_iload C.1.1 C.1.2.1 hdg (lv_at hl k hk) (kk H locs ls hP hS hl)
theorem zs_istore_n (C : zs_C p s m args meth c cc nL Ts own D cl tys N ad) {kf : Fin 4} {i : Nat} {x : Int32} (hdg : decode cc pc = .ok (.istore_n kf, 1)) (hi : (kf : Nat) = i) (hn : i < nL) (hv : (i, Value.int x) :: lv.filter (fun q => !(q.1 == i) && !(q.1 + 1 == i && q.2.category == 2)) = lv')
    (kk : zs_Z p l e R s m args below meth c D cl N ad wf nL ov out σ (pc + 1) lv' (st)) : zs_Z p l e R s m args below meth c D cl N ad wf nL ov out σ pc lv (.int x :: st) :=
  fun H locs ls hP hS hl => lv_istore_n C.1.1 C.1.2.1 hdg hi hl hn hv (fun ls hl => kk H locs ls hP hS hl)
theorem zs_istore (C : zs_C p s m args meth c cc nL Ts own D cl tys N ad) {i : Nat} {x : Int32} (hdg : decode cc pc = .ok (.istore i, 2)) (hn : i < nL) (hv : (i, Value.int x) :: lv.filter (fun q => !(q.1 == i) && !(q.1 + 1 == i && q.2.category == 2)) = lv')
    (kk : zs_Z p l e R s m args below meth c D cl N ad wf nL ov out σ (pc + 2) lv' (st)) : zs_Z p l e R s m args below meth c D cl N ad wf nL ov out σ pc lv (.int x :: st) :=
  fun H locs ls hP hS hl => lv_istore C.1.1 C.1.2.1 hdg hl hn hv (fun ls hl => kk H locs ls hP hS hl)
theorem zs_aload_n (C : zs_C p s m args meth c cc nL Ts own D cl tys N ad) {kf : Fin 4} {i k : Nat} {x : Nat} (hdg : decode cc pc = .ok (.aload_n kf, 1)) (hi : (kf : Nat) = i) (hk : lv[k]? = some (i, .ref x))
    (kk : zs_Z p l e R s m args below meth c D cl N ad wf nL ov out σ (pc + 1) lv (.ref x :: st)) : zs_Z p l e R s m args below meth c D cl N ad wf nL ov out σ pc lv (st) :=
  fun H locs ls hP hS hl => lv_aload_n C.1.1 C.1.2.1 hdg hi (lv_at hl k hk) (kk H locs ls hP hS hl)
theorem zs_aload (C : zs_C p s m args meth c cc nL Ts own D cl tys N ad) {i k : Nat} {x : Nat} (hdg : decode cc pc = .ok (.aload i, 2)) (hk : lv[k]? = some (i, .ref x))
    (kk : zs_Z p l e R s m args below meth c D cl N ad wf nL ov out σ (pc + 2) lv (.ref x :: st)) : zs_Z p l e R s m args below meth c D cl N ad wf nL ov out σ pc lv (st) :=
  fun H locs ls hP hS hl => lv_aload C.1.1 C.1.2.1 hdg (lv_at hl k hk) (kk H locs ls hP hS hl)
theorem zs_astore_n (C : zs_C p s m args meth c cc nL Ts own D cl tys N ad) {kf : Fin 4} {i : Nat} {x : Nat} (hdg : decode cc pc = .ok (.astore_n kf, 1)) (hi : (kf : Nat) = i) (hn : i < nL) (hv : (i, Value.ref x) :: lv.filter (fun q => !(q.1 == i) && !(q.1 + 1 == i && q.2.category == 2)) = lv')
    (kk : zs_Z p l e R s m args below meth c D cl N ad wf nL ov out σ (pc + 1) lv' (st)) : zs_Z p l e R s m args below meth c D cl N ad wf nL ov out σ pc lv (.ref x :: st) :=
  fun H locs ls hP hS hl => lv_astore_n C.1.1 C.1.2.1 hdg hi hl hn hv (fun ls hl => kk H locs ls hP hS hl)
theorem zs_astore (C : zs_C p s m args meth c cc nL Ts own D cl tys N ad) {i : Nat} {x : Nat} (hdg : decode cc pc = .ok (.astore i, 2)) (hn : i < nL) (hv : (i, Value.ref x) :: lv.filter (fun q => !(q.1 == i) && !(q.1 + 1 == i && q.2.category == 2)) = lv')
    (kk : zs_Z p l e R s m args below meth c D cl N ad wf nL ov out σ (pc + 2) lv' (st)) : zs_Z p l e R s m args below meth c D cl N ad wf nL ov out σ pc lv (.ref x :: st) :=
  fun H locs ls hP hS hl => lv_astore C.1.1 C.1.2.1 hdg hl hn hv (fun ls hl => kk H locs ls hP hS hl)
theorem zs_iinc (C : zs_C p s m args meth c cc nL Ts own D cl tys N ad) {i k : Nat} {n : Int} {x v : Int32} (hdg : decode cc pc = .ok (.iinc i n, 3)) (hk : lv[k]? = some (i, .int x)) (hv : x + Int32.ofInt n = v) (hn : i < nL) (hl2 : (i, Value.int v) :: lv.filter (fun q => !(q.1 == i) && !(q.1 + 1 == i && q.2.category == 2)) = lv')
    (kk : zs_Z p l e R s m args below meth c D cl N ad wf nL ov out σ (pc + 3) lv' (st)) : zs_Z p l e R s m args below meth c D cl N ad wf nL ov out σ pc lv (st) :=
  fun H locs ls hP hS hl => lv_iinc C.1.1 C.1.2.1 hdg hl hk hv hn hl2 (fun ls hl => kk H locs ls hP hS hl)
theorem zs_iadd (C : zs_C p s m args meth c cc nL Ts own D cl tys N ad) {x y : Int32} (hdg : decode cc pc = .ok (.iadd, 1))
    (kk : zs_Z p l e R s m args below meth c D cl N ad wf nL ov out σ (pc + 1) lv (.int (x + y) :: st)) : zs_Z p l e R s m args below meth c D cl N ad wf nL ov out σ pc lv (.int y :: .int x :: st) :=
  fun H locs ls hP hS hl => lv_iadd C.1.1 C.1.2.1 hdg (kk H locs ls hP hS hl)
theorem zs_isub (C : zs_C p s m args meth c cc nL Ts own D cl tys N ad) {x y : Int32} (hdg : decode cc pc = .ok (.isub, 1))
    (kk : zs_Z p l e R s m args below meth c D cl N ad wf nL ov out σ (pc + 1) lv (.int (x - y) :: st)) : zs_Z p l e R s m args below meth c D cl N ad wf nL ov out σ pc lv (.int y :: .int x :: st) :=
  fun H locs ls hP hS hl => lv_isub C.1.1 C.1.2.1 hdg (kk H locs ls hP hS hl)
theorem zs_imul (C : zs_C p s m args meth c cc nL Ts own D cl tys N ad) {x y : Int32} (hdg : decode cc pc = .ok (.imul, 1))
    (kk : zs_Z p l e R s m args below meth c D cl N ad wf nL ov out σ (pc + 1) lv (.int (x * y) :: st)) : zs_Z p l e R s m args below meth c D cl N ad wf nL ov out σ pc lv (.int y :: .int x :: st) :=
  fun H locs ls hP hS hl => lv_imul C.1.1 C.1.2.1 hdg (kk H locs ls hP hS hl)
theorem zs_iand (C : zs_C p s m args meth c cc nL Ts own D cl tys N ad) {x y : Int32} (hdg : decode cc pc = .ok (.iand, 1))
    (kk : zs_Z p l e R s m args below meth c D cl N ad wf nL ov out σ (pc + 1) lv (.int (x &&& y) :: st)) : zs_Z p l e R s m args below meth c D cl N ad wf nL ov out σ pc lv (.int y :: .int x :: st) :=
  fun H locs ls hP hS hl => lv_iand C.1.1 C.1.2.1 hdg (kk H locs ls hP hS hl)
theorem zs_ior (C : zs_C p s m args meth c cc nL Ts own D cl tys N ad) {x y : Int32} (hdg : decode cc pc = .ok (.ior, 1))
    (kk : zs_Z p l e R s m args below meth c D cl N ad wf nL ov out σ (pc + 1) lv (.int (x ||| y) :: st)) : zs_Z p l e R s m args below meth c D cl N ad wf nL ov out σ pc lv (.int y :: .int x :: st) :=
  fun H locs ls hP hS hl => lv_ior C.1.1 C.1.2.1 hdg (kk H locs ls hP hS hl)
theorem zs_ixor (C : zs_C p s m args meth c cc nL Ts own D cl tys N ad) {x y : Int32} (hdg : decode cc pc = .ok (.ixor, 1))
    (kk : zs_Z p l e R s m args below meth c D cl N ad wf nL ov out σ (pc + 1) lv (.int (x ^^^ y) :: st)) : zs_Z p l e R s m args below meth c D cl N ad wf nL ov out σ pc lv (.int y :: .int x :: st) :=
  fun H locs ls hP hS hl => lv_ixor C.1.1 C.1.2.1 hdg (kk H locs ls hP hS hl)
theorem zs_ishr (C : zs_C p s m args meth c cc nL Ts own D cl tys N ad) {x y : Int32} (hdg : decode cc pc = .ok (.ishr, 1))
    (kk : zs_Z p l e R s m args below meth c D cl N ad wf nL ov out σ (pc + 1) lv (.int (x >>> (y &&& 31)) :: st)) : zs_Z p l e R s m args below meth c D cl N ad wf nL ov out σ pc lv (.int y :: .int x :: st) :=
  fun H locs ls hP hS hl => lv_ishr C.1.1 C.1.2.1 hdg (kk H locs ls hP hS hl)
theorem zs_ishl (C : zs_C p s m args meth c cc nL Ts own D cl tys N ad) {x y : Int32} (hdg : decode cc pc = .ok (.ishl, 1))
    (kk : zs_Z p l e R s m args below meth c D cl N ad wf nL ov out σ (pc + 1) lv (.int (x <<< (y &&& 31)) :: st)) : zs_Z p l e R s m args below meth c D cl N ad wf nL ov out σ pc lv (.int y :: .int x :: st) :=
  fun H locs ls hP hS hl => lv_ishl C.1.1 C.1.2.1 hdg (kk H locs ls hP hS hl)
theorem zs_idiv (C : zs_C p s m args meth c cc nL Ts own D cl tys N ad) {x y : Int32} (hdg : decode cc pc = .ok (.idiv, 1)) (hne : ¬ y = 0)
    (kk : zs_Z p l e R s m args below meth c D cl N ad wf nL ov out σ (pc + 1) lv (.int (x / y) :: st)) : zs_Z p l e R s m args below meth c D cl N ad wf nL ov out σ pc lv (.int y :: .int x :: st) :=
  fun H locs ls hP hS hl => lv_idiv C.1.1 C.1.2.1 hdg hne (kk H locs ls hP hS hl)
theorem zs_irem (C : zs_C p s m args meth c cc nL Ts own D cl tys N ad) {x y : Int32} (hdg : decode cc pc = .ok (.irem, 1)) (hne : ¬ y = 0)
    (kk : zs_Z p l e R s m args below meth c D cl N ad wf nL ov out σ (pc + 1) lv (.int (x - x / y * y) :: st)) : zs_Z p l e R s m args below meth c D cl N ad wf nL ov out σ pc lv (.int y :: .int x :: st) :=
  fun H locs ls hP hS hl => lv_irem C.1.1 C.1.2.1 hdg hne (kk H locs ls hP hS hl)
theorem zs_ineg (C : zs_C p s m args meth c cc nL Ts own D cl tys N ad) {x : Int32} (hdg : decode cc pc = .ok (.ineg, 1))
    (kk : zs_Z p l e R s m args below meth c D cl N ad wf nL ov out σ (pc + 1) lv (.int (-x) :: st)) : zs_Z p l e R s m args below meth c D cl N ad wf nL ov out σ pc lv (.int x :: st) :=
  fun H locs ls hP hS hl => lv_ineg C.1.1 C.1.2.1 hdg (kk H locs ls hP hS hl)
theorem zs_dup (C : zs_C p s m args meth c cc nL Ts own D cl tys N ad) {va : Value} (hdg : decode cc pc = .ok (.dup, 1)) (hva : va.category = 1)
    (kk : zs_Z p l e R s m args below meth c D cl N ad wf nL ov out σ (pc + 1) lv (va :: va :: st)) : zs_Z p l e R s m args below meth c D cl N ad wf nL ov out σ pc lv (va :: st) :=
  fun H locs ls hP hS hl => lv_dup C.1.1 C.1.2.1 hdg hva (kk H locs ls hP hS hl)
theorem zs_pop (C : zs_C p s m args meth c cc nL Ts own D cl tys N ad) {va : Value} (hdg : decode cc pc = .ok (.pop, 1)) (hva : va.category = 1)
    (kk : zs_Z p l e R s m args below meth c D cl N ad wf nL ov out σ (pc + 1) lv (st)) : zs_Z p l e R s m args below meth c D cl N ad wf nL ov out σ pc lv (va :: st) :=
  fun H locs ls hP hS hl => lv_pop C.1.1 C.1.2.1 hdg hva (kk H locs ls hP hS hl)
theorem zs_dup_x1 (C : zs_C p s m args meth c cc nL Ts own D cl tys N ad) {va vb : Value} (hdg : decode cc pc = .ok (.dup_x1, 1)) (hva : va.category = 1) (hvb : vb.category = 1)
    (kk : zs_Z p l e R s m args below meth c D cl N ad wf nL ov out σ (pc + 1) lv (va :: vb :: va :: st)) : zs_Z p l e R s m args below meth c D cl N ad wf nL ov out σ pc lv (va :: vb :: st) :=
  fun H locs ls hP hS hl => lv_dup_x1 C.1.1 C.1.2.1 hdg hva hvb (kk H locs ls hP hS hl)
theorem zs_dup2 (C : zs_C p s m args meth c cc nL Ts own D cl tys N ad) {va vb : Value} (hdg : decode cc pc = .ok (.dup2, 1)) (hva : va.category = 1) (hvb : vb.category = 1)
    (kk : zs_Z p l e R s m args below meth c D cl N ad wf nL ov out σ (pc + 1) lv (va :: vb :: va :: vb :: st)) : zs_Z p l e R s m args below meth c D cl N ad wf nL ov out σ pc lv (va :: vb :: st) :=
  fun H locs ls hP hS hl => lv_dup2_11 C.1.1 C.1.2.1 hdg hva hvb (kk H locs ls hP hS hl)
theorem zs_goto (C : zs_C p s m args meth c cc nL Ts own D cl tys N ad) {off : Int} {tgt : Nat} (hdg : decode cc pc = .ok (.goto off, 3)) (ht : (pc : Int) + off = (tgt : Int))
    (kk : zs_Z p l e R s m args below meth c D cl N ad wf nL ov out σ tgt lv (st)) : zs_Z p l e R s m args below meth c D cl N ad wf nL ov out σ pc lv (st) :=
  fun H locs ls hP hS hl => lv_goto C.1.1 C.1.2.1 hdg ht (kk H locs ls hP hS hl)
theorem zs_if {cnd : Prop} {dc : Decidable cnd} {o1 o2 : zs_O} (kt : cnd → zs_Z p l e R s m args below meth c D cl N ad wf nL ov o1 σ pc lv (st)) (kf : ¬ cnd → zs_Z p l e R s m args below meth c D cl N ad wf nL ov o2 σ pc lv (st)) : zs_Z p l e R s m args below meth c D cl N ad wf nL ov (if cnd then o1 else o2) σ pc lv (st) := by
  by_cases h : cnd
  · rw [if_pos h]; exact kt h
  · rw [if_neg h]; exact kf h
theorem zs_ifP {cnd : Prop} {dc : Decidable cnd} {σ0 : zs_T} {r1 r2 : Int32} (kt : cnd → zs_Z p l e R s m args below meth c D cl N ad wf nL ov (σ0, r1) σ pc lv (st)) (kf : ¬ cnd → zs_Z p l e R s m args below meth c D cl N ad wf nL ov (σ0, r2) σ pc lv (st)) : zs_Z p l e R s m args below meth c D cl N ad wf nL ov (σ0, if cnd then r1 else r2) σ pc lv (st) := by
  by_cases h : cnd
  · rw [if_pos h]; exact kt h
  · rw [if_neg h]; exact kf h
theorem zs_ifQ {cnd : Prop} (kt : cnd → zs_Z p l e R s m args below meth c D cl N ad wf nL ov out σ pc lv (st)) (kf : ¬ cnd → zs_Z p l e R s m args below meth c D cl N ad wf nL ov out σ pc lv (st)) : zs_Z p l e R s m args below meth c D cl N ad wf nL ov out σ pc lv (st) := by
  by_cases h : cnd
  · exact kt h
  · exact kf h
theorem zs_nlt {x y : Int32} : ¬ x < y ↔ y ≤ x := by rw [Int32.lt_iff_toInt_lt, Int32.le_iff_toInt_le]; omega
theorem zs_icmp_eq (C : zs_C p s m args meth c cc nL Ts own D cl tys N ad) {x y : Int32} {o1 o2 : zs_O} {off : Int} {tgt : Nat} (hdg : decode cc pc = .ok (.if_icmp .eq off, 3)) (ht : (pc : Int) + off = (tgt : Int))
    (kt : x = y → zs_Z p l e R s m args below meth c D cl N ad wf nL ov o1 σ tgt lv (st))
    (kf : ¬ x = y → zs_Z p l e R s m args below meth c D cl N ad wf nL ov o2 σ (pc + 3) lv (st)) : zs_Z p l e R s m args below meth c D cl N ad wf nL ov (if x = y then o1 else o2) σ pc lv (.int y :: .int x :: st) := by
  refine zs_if (fun h => ?_) (fun h => ?_)
  · exact fun H locs ls hP hS hl => lv_icmp_eq C.1.1 C.1.2.1 hdg ht (fun _ => kt h H locs ls hP hS hl) (fun q => absurd h q)
  · exact fun H locs ls hP hS hl => lv_icmp_eq C.1.1 C.1.2.1 hdg ht (fun q => absurd q h) (fun _ => kf h H locs ls hP hS hl)
theorem zs_icmp_eqP (C : zs_C p s m args meth c cc nL Ts own D cl tys N ad) {x y : Int32} {σ0 : zs_T} {r1 r2 : Int32} {off : Int} {tgt : Nat} (hdg : decode cc pc = .ok (.if_icmp .eq off, 3)) (ht : (pc : Int) + off = (tgt : Int))
    (kt : x = y → zs_Z p l e R s m args below meth c D cl N ad wf nL ov (σ0, r1) σ tgt lv (st))
    (kf : ¬ x = y → zs_Z p l e R s m args below meth c D cl N ad wf nL ov (σ0, r2) σ (pc + 3) lv (st)) : zs_Z p l e R s m args below meth c D cl N ad wf nL ov (σ0, if x = y then r1 else r2) σ pc lv (.int y :: .int x :: st) := by
  refine zs_ifP (fun h => ?_) (fun h => ?_)
  · exact fun H locs ls hP hS hl => lv_icmp_eq C.1.1 C.1.2.1 hdg ht (fun _ => kt h H locs ls hP hS hl) (fun q => absurd h q)
  · exact fun H locs ls hP hS hl => lv_icmp_eq C.1.1 C.1.2.1 hdg ht (fun q => absurd q h) (fun _ => kf h H locs ls hP hS hl)
theorem zs_icmp_eqQ (C : zs_C p s m args meth c cc nL Ts own D cl tys N ad) {x y : Int32}  {off : Int} {tgt : Nat} (hdg : decode cc pc = .ok (.if_icmp .eq off, 3)) (ht : (pc : Int) + off = (tgt : Int))
    (kt : x = y → zs_Z p l e R s m args below meth c D cl N ad wf nL ov out σ tgt lv (st))
    (kf : ¬ x = y → zs_Z p l e R s m args below meth c D cl N ad wf nL ov out σ (pc + 3) lv (st)) : zs_Z p l e R s m args below meth c D cl N ad wf nL ov out σ pc lv (.int y :: .int x :: st) := by
  refine zs_ifQ (cnd := x = y) (fun h => ?_) (fun h => ?_)
  · exact fun H locs ls hP hS hl => lv_icmp_eq C.1.1 C.1.2.1 hdg ht (fun _ => kt h H locs ls hP hS hl) (fun q => absurd h q)
  · exact fun H locs ls hP hS hl => lv_icmp_eq C.1.1 C.1.2.1 hdg ht (fun q => absurd q h) (fun _ => kf h H locs ls hP hS hl)
theorem zs_icmp_ne (C : zs_C p s m args meth c cc nL Ts own D cl tys N ad) {x y : Int32} {o1 o2 : zs_O} {off : Int} {tgt : Nat} (hdg : decode cc pc = .ok (.if_icmp .ne off, 3)) (ht : (pc : Int) + off = (tgt : Int))
    (kt : x = y → zs_Z p l e R s m args below meth c D cl N ad wf nL ov o1 σ (pc + 3) lv (st))
    (kf : ¬ x = y → zs_Z p l e R s m args below meth c D cl N ad wf nL ov o2 σ tgt lv (st)) : zs_Z p l e R s m args below meth c D cl N ad wf nL ov (if x = y then o1 else o2) σ pc lv (.int y :: .int x :: st) := by
  refine zs_if (fun h => ?_) (fun h => ?_)
  · exact fun H locs ls hP hS hl => lv_icmp_ne C.1.1 C.1.2.1 hdg ht (fun q => absurd h q) (fun _ => kt h H locs ls hP hS hl)
  · exact fun H locs ls hP hS hl => lv_icmp_ne C.1.1 C.1.2.1 hdg ht (fun _ => kf h H locs ls hP hS hl) (fun q => absurd q h)
theorem zs_icmp_neP (C : zs_C p s m args meth c cc nL Ts own D cl tys N ad) {x y : Int32} {σ0 : zs_T} {r1 r2 : Int32} {off : Int} {tgt : Nat} (hdg : decode cc pc = .ok (.if_icmp .ne off, 3)) (ht : (pc : Int) + off = (tgt : Int))
    (kt : x = y → zs_Z p l e R s m args below meth c D cl N ad wf nL ov (σ0, r1) σ (pc + 3) lv (st))
    (kf : ¬ x = y → zs_Z p l e R s m args below meth c D cl N ad wf nL ov (σ0, r2) σ tgt lv (st)) : zs_Z p l e R s m args below meth c D cl N ad wf nL ov (σ0, if x = y then r1 else r2) σ pc lv (.int y :: .int x :: st) := by
  refine zs_ifP (fun h => ?_) (fun h => ?_)
  · exact fun H locs ls hP hS hl => lv_icmp_ne C.1.1 C.1.2.1 hdg ht (fun q => absurd h q) (fun _ => kt h H locs ls hP hS hl)
  · exact fun H locs ls hP hS hl => lv_icmp_ne C.1.1 C.1.2.1 hdg ht (fun _ => kf h H locs ls hP hS hl) (fun q => absurd q h)
theorem zs_icmp_neQ (C : zs_C p s m args meth c cc nL Ts own D cl tys N ad) {x y : Int32}  {off : Int} {tgt : Nat} (hdg : decode cc pc = .ok (.if_icmp .ne off, 3)) (ht : (pc : Int) + off = (tgt : Int))
    (kt : x = y → zs_Z p l e R s m args below meth c D cl N ad wf nL ov out σ (pc + 3) lv (st))
    (kf : ¬ x = y → zs_Z p l e R s m args below meth c D cl N ad wf nL ov out σ tgt lv (st)) : zs_Z p l e R s m args below meth c D cl N ad wf nL ov out σ pc lv (.int y :: .int x :: st) := by
  refine zs_ifQ (cnd := x = y) (fun h => ?_) (fun h => ?_)
  · exact fun H locs ls hP hS hl => lv_icmp_ne C.1.1 C.1.2.1 hdg ht (fun q => absurd h q) (fun _ => kt h H locs ls hP hS hl)
  · exact fun H locs ls hP hS hl => lv_icmp_ne C.1.1 C.1.2.1 hdg ht (fun _ => kf h H locs ls hP hS hl) (fun q => absurd q h)
theorem zs_icmp_lt (C : zs_C p s m args meth c cc nL Ts own D cl tys N ad) {x y : Int32} {o1 o2 : zs_O} {off : Int} {tgt : Nat} (hdg : decode cc pc = .ok (.if_icmp .lt off, 3)) (ht : (pc : Int) + off = (tgt : Int))
    (kt : x < y → zs_Z p l e R s m args below meth c D cl N ad wf nL ov o1 σ tgt lv (st))
    (kf : ¬ x < y → zs_Z p l e R s m args below meth c D cl N ad wf nL ov o2 σ (pc + 3) lv (st)) : zs_Z p l e R s m args below meth c D cl N ad wf nL ov (if x < y then o1 else o2) σ pc lv (.int y :: .int x :: st) := by
  refine zs_if (fun h => ?_) (fun h => ?_)
  · exact fun H locs ls hP hS hl => lv_icmp_lt C.1.1 C.1.2.1 hdg ht (fun _ => kt h H locs ls hP hS hl) (fun q => absurd h q)
  · exact fun H locs ls hP hS hl => lv_icmp_lt C.1.1 C.1.2.1 hdg ht (fun q => absurd q h) (fun _ => kf h H locs ls hP hS hl)
theorem zs_icmp_ltP (C : zs_C p s m args meth c cc nL Ts own D cl tys N ad) {x y : Int32} {σ0 : zs_T} {r1 r2 : Int32} {off : Int} {tgt : Nat} (hdg : decode cc pc = .ok (.if_icmp .lt off, 3)) (ht : (pc : Int) + off = (tgt : Int))
    (kt : x < y → zs_Z p l e R s m args below meth c D cl N ad wf nL ov (σ0, r1) σ tgt lv (st))
    (kf : ¬ x < y → zs_Z p l e R s m args below meth c D cl N ad wf nL ov (σ0, r2) σ (pc + 3) lv (st)) : zs_Z p l e R s m args below meth c D cl N ad wf nL ov (σ0, if x < y then r1 else r2) σ pc lv (.int y :: .int x :: st) := by
  refine zs_ifP (fun h => ?_) (fun h => ?_)
  · exact fun H locs ls hP hS hl => lv_icmp_lt C.1.1 C.1.2.1 hdg ht (fun _ => kt h H locs ls hP hS hl) (fun q => absurd h q)
  · exact fun H locs ls hP hS hl => lv_icmp_lt C.1.1 C.1.2.1 hdg ht (fun q => absurd q h) (fun _ => kf h H locs ls hP hS hl)
theorem zs_icmp_ltQ (C : zs_C p s m args meth c cc nL Ts own D cl tys N ad) {x y : Int32}  {off : Int} {tgt : Nat} (hdg : decode cc pc = .ok (.if_icmp .lt off, 3)) (ht : (pc : Int) + off = (tgt : Int))
    (kt : x < y → zs_Z p l e R s m args below meth c D cl N ad wf nL ov out σ tgt lv (st))
    (kf : ¬ x < y → zs_Z p l e R s m args below meth c D cl N ad wf nL ov out σ (pc + 3) lv (st)) : zs_Z p l e R s m args below meth c D cl N ad wf nL ov out σ pc lv (.int y :: .int x :: st) := by
  refine zs_ifQ (cnd := x < y) (fun h => ?_) (fun h => ?_)
  · exact fun H locs ls hP hS hl => lv_icmp_lt C.1.1 C.1.2.1 hdg ht (fun _ => kt h H locs ls hP hS hl) (fun q => absurd h q)
  · exact fun H locs ls hP hS hl => lv_icmp_lt C.1.1 C.1.2.1 hdg ht (fun q => absurd q h) (fun _ => kf h H locs ls hP hS hl)
theorem zs_icmp_ge (C : zs_C p s m args meth c cc nL Ts own D cl tys N ad) {x y : Int32} {o1 o2 : zs_O} {off : Int} {tgt : Nat} (hdg : decode cc pc = .ok (.if_icmp .ge off, 3)) (ht : (pc : Int) + off = (tgt : Int))
    (kt : x < y → zs_Z p l e R s m args below meth c D cl N ad wf nL ov o1 σ (pc + 3) lv (st))
    (kf : ¬ x < y → zs_Z p l e R s m args below meth c D cl N ad wf nL ov o2 σ tgt lv (st)) : zs_Z p l e R s m args below meth c D cl N ad wf nL ov (if x < y then o1 else o2) σ pc lv (.int y :: .int x :: st) := by
  refine zs_if (fun h => ?_) (fun h => ?_)
  · exact fun H locs ls hP hS hl => lv_icmp_ge C.1.1 C.1.2.1 hdg ht (fun q => absurd h (zs_nlt.mpr q)) (fun _ => kt h H locs ls hP hS hl)
  · exact fun H locs ls hP hS hl => lv_icmp_ge C.1.1 C.1.2.1 hdg ht (fun _ => kf h H locs ls hP hS hl) (fun q => absurd (zs_nlt.mp h) q)
theorem zs_icmp_geP (C : zs_C p s m args meth c cc nL Ts own D cl tys N ad) {x y : Int32} {σ0 : zs_T} {r1 r2 : Int32} {off : Int} {tgt : Nat} (hdg : decode cc pc = .ok (.if_icmp .ge off, 3)) (ht : (pc : Int) + off = (tgt : Int))
    (kt : x < y → zs_Z p l e R s m args below meth c D cl N ad wf nL ov (σ0, r1) σ (pc + 3) lv (st))
    (kf : ¬ x < y → zs_Z p l e R s m args below meth c D cl N ad wf nL ov (σ0, r2) σ tgt lv (st)) : zs_Z p l e R s m args below meth c D cl N ad wf nL ov (σ0, if x < y then r1 else r2) σ pc lv (.int y :: .int x :: st) := by
  refine zs_ifP (fun h => ?_) (fun h => ?_)
  · exact fun H locs ls hP hS hl => lv_icmp_ge C.1.1 C.1.2.1 hdg ht (fun q => absurd h (zs_nlt.mpr q)) (fun _ => kt h H locs ls hP hS hl)
  · exact fun H locs ls hP hS hl => lv_icmp_ge C.1.1 C.1.2.1 hdg ht (fun _ => kf h H locs ls hP hS hl) (fun q => absurd (zs_nlt.mp h) q)
theorem zs_icmp_geQ (C : zs_C p s m args meth c cc nL Ts own D cl tys N ad) {x y : Int32}  {off : Int} {tgt : Nat} (hdg : decode cc pc = .ok (.if_icmp .ge off, 3)) (ht : (pc : Int) + off = (tgt : Int))
    (kt : x < y → zs_Z p l e R s m args below meth c D cl N ad wf nL ov out σ (pc + 3) lv (st))
    (kf : ¬ x < y → zs_Z p l e R s m args below meth c D cl N ad wf nL ov out σ tgt lv (st)) : zs_Z p l e R s m args below meth c D cl N ad wf nL ov out σ pc lv (.int y :: .int x :: st) := by
  refine zs_ifQ (cnd := x < y) (fun h => ?_) (fun h => ?_)
  · exact fun H locs ls hP hS hl => lv_icmp_ge C.1.1 C.1.2.1 hdg ht (fun q => absurd h (zs_nlt.mpr q)) (fun _ => kt h H locs ls hP hS hl)
  · exact fun H locs ls hP hS hl => lv_icmp_ge C.1.1 C.1.2.1 hdg ht (fun _ => kf h H locs ls hP hS hl) (fun q => absurd (zs_nlt.mp h) q)
theorem zs_icmp_gt (C : zs_C p s m args meth c cc nL Ts own D cl tys N ad) {x y : Int32} {o1 o2 : zs_O} {off : Int} {tgt : Nat} (hdg : decode cc pc = .ok (.if_icmp .gt off, 3)) (ht : (pc : Int) + off = (tgt : Int))
    (kt : y < x → zs_Z p l e R s m args below meth c D cl N ad wf nL ov o1 σ tgt lv (st))
    (kf : ¬ y < x → zs_Z p l e R s m args below meth c D cl N ad wf nL ov o2 σ (pc + 3) lv (st)) : zs_Z p l e R s m args below meth c D cl N ad wf nL ov (if y < x then o1 else o2) σ pc lv (.int y :: .int x :: st) := by
  refine zs_if (fun h => ?_) (fun h => ?_)
  · exact fun H locs ls hP hS hl => lv_icmp_gt C.1.1 C.1.2.1 hdg ht (fun _ => kt h H locs ls hP hS hl) (fun q => absurd h q)
  · exact fun H locs ls hP hS hl => lv_icmp_gt C.1.1 C.1.2.1 hdg ht (fun q => absurd q h) (fun _ => kf h H locs ls hP hS hl)
theorem zs_icmp_gtP (C : zs_C p s m args meth c cc nL Ts own D cl tys N ad) {x y : Int32} {σ0 : zs_T} {r1 r2 : Int32} {off : Int} {tgt : Nat} (hdg : decode cc pc = .ok (.if_icmp .gt off, 3)) (ht : (pc : Int) + off = (tgt : Int))
    (kt : y < x → zs_Z p l e R s m args below meth c D cl N ad wf nL ov (σ0, r1) σ tgt lv (st))
    (kf : ¬ y < x → zs_Z p l e R s m args below meth c D cl N ad wf nL ov (σ0, r2) σ (pc + 3) lv (st)) : zs_Z p l e R s m args below meth c D cl N ad wf nL ov (σ0, if y < x then r1 else r2) σ pc lv (.int y :: .int x :: st) := by
  refine zs_ifP (fun h => ?_) (fun h => ?_)
  · exact fun H locs ls hP hS hl => lv_icmp_gt C.1.1 C.1.2.1 hdg ht (fun _ => kt h H locs ls hP hS hl) (fun q => absurd h q)
  · exact fun H locs ls hP hS hl => lv_icmp_gt C.1.1 C.1.2.1 hdg ht (fun q => absurd q h) (fun _ => kf h H locs ls hP hS hl)
theorem zs_icmp_gtQ (C : zs_C p s m args meth c cc nL Ts own D cl tys N ad) {x y : Int32}  {off : Int} {tgt : Nat} (hdg : decode cc pc = .ok (.if_icmp .gt off, 3)) (ht : (pc : Int) + off = (tgt : Int))
    (kt : y < x → zs_Z p l e R s m args below meth c D cl N ad wf nL ov out σ tgt lv (st))
    (kf : ¬ y < x → zs_Z p l e R s m args below meth c D cl N ad wf nL ov out σ (pc + 3) lv (st)) : zs_Z p l e R s m args below meth c D cl N ad wf nL ov out σ pc lv (.int y :: .int x :: st) := by
  refine zs_ifQ (cnd := y < x) (fun h => ?_) (fun h => ?_)
  · exact fun H locs ls hP hS hl => lv_icmp_gt C.1.1 C.1.2.1 hdg ht (fun _ => kt h H locs ls hP hS hl) (fun q => absurd h q)
  · exact fun H locs ls hP hS hl => lv_icmp_gt C.1.1 C.1.2.1 hdg ht (fun q => absurd q h) (fun _ => kf h H locs ls hP hS hl)
theorem zs_icmp_le (C : zs_C p s m args meth c cc nL Ts own D cl tys N ad) {x y : Int32} {o1 o2 : zs_O} {off : Int} {tgt : Nat} (hdg : decode cc pc = .ok (.if_icmp .le off, 3)) (ht : (pc : Int) + off = (tgt : Int))
    (kt : y < x → zs_Z p l e R s m args below meth c D cl N ad wf nL ov o1 σ (pc + 3) lv (st))
    (kf : ¬ y < x → zs_Z p l e R s m args below meth c D cl N ad wf nL ov o2 σ tgt lv (st)) : zs_Z p l e R s m args below meth c D cl N ad wf nL ov (if y < x then o1 else o2) σ pc lv (.int y :: .int x :: st) := by
  refine zs_if (fun h => ?_) (fun h => ?_)
  · exact fun H locs ls hP hS hl => lv_icmp_le C.1.1 C.1.2.1 hdg ht (fun q => absurd h (zs_nlt.mpr q)) (fun _ => kt h H locs ls hP hS hl)
  · exact fun H locs ls hP hS hl => lv_icmp_le C.1.1 C.1.2.1 hdg ht (fun _ => kf h H locs ls hP hS hl) (fun q => absurd (zs_nlt.mp h) q)
theorem zs_icmp_leP (C : zs_C p s m args meth c cc nL Ts own D cl tys N ad) {x y : Int32} {σ0 : zs_T} {r1 r2 : Int32} {off : Int} {tgt : Nat} (hdg : decode cc pc = .ok (.if_icmp .le off, 3)) (ht : (pc : Int) + off = (tgt : Int))
    (kt : y < x → zs_Z p l e R s m args below meth c D cl N ad wf nL ov (σ0, r1) σ (pc + 3) lv (st))
    (kf : ¬ y < x → zs_Z p l e R s m args below meth c D cl N ad wf nL ov (σ0, r2) σ tgt lv (st)) : zs_Z p l e R s m args below meth c D cl N ad wf nL ov (σ0, if y < x then r1 else r2) σ pc lv (.int y :: .int x :: st) := by
  refine zs_ifP (fun h => ?_) (fun h => ?_)
  · exact fun H locs ls hP hS hl => lv_icmp_le C.1.1 C.1.2.1 hdg ht (fun q => absurd h (zs_nlt.mpr q)) (fun _ => kt h H locs ls hP hS hl)
  · exact fun H locs ls hP hS hl => lv_icmp_le C.1.1 C.1.2.1 hdg ht (fun _ => kf h H locs ls hP hS hl) (fun q => absurd (zs_nlt.mp h) q)
theorem zs_icmp_leQ (C : zs_C p s m args meth c cc nL Ts own D cl tys N ad) {x y : Int32}  {off : Int} {tgt : Nat} (hdg : decode cc pc = .ok (.if_icmp .le off, 3)) (ht : (pc : Int) + off = (tgt : Int))
    (kt : y < x → zs_Z p l e R s m args below meth c D cl N ad wf nL ov out σ (pc + 3) lv (st))
    (kf : ¬ y < x → zs_Z p l e R s m args below meth c D cl N ad wf nL ov out σ tgt lv (st)) : zs_Z p l e R s m args below meth c D cl N ad wf nL ov out σ pc lv (.int y :: .int x :: st) := by
  refine zs_ifQ (cnd := y < x) (fun h => ?_) (fun h => ?_)
  · exact fun H locs ls hP hS hl => lv_icmp_le C.1.1 C.1.2.1 hdg ht (fun q => absurd h (zs_nlt.mpr q)) (fun _ => kt h H locs ls hP hS hl)
  · exact fun H locs ls hP hS hl => lv_icmp_le C.1.1 C.1.2.1 hdg ht (fun _ => kf h H locs ls hP hS hl) (fun q => absurd (zs_nlt.mp h) q)
theorem zs_if_eq (C : zs_C p s m args meth c cc nL Ts own D cl tys N ad) {x : Int32} {o1 o2 : zs_O} {off : Int} {tgt : Nat} (hdg : decode cc pc = .ok (.ifCond .eq off, 3)) (ht : (pc : Int) + off = (tgt : Int))
    (kt : x = 0 → zs_Z p l e R s m args below meth c D cl N ad wf nL ov o1 σ tgt lv (st))
    (kf : ¬ x = 0 → zs_Z p l e R s m args below meth c D cl N ad wf nL ov o2 σ (pc + 3) lv (st)) : zs_Z p l e R s m args below meth c D cl N ad wf nL ov (if x = 0 then o1 else o2) σ pc lv (.int x :: st) := by
  refine zs_if (fun h => ?_) (fun h => ?_)
  · exact fun H locs ls hP hS hl => lv_if_eq C.1.1 C.1.2.1 hdg ht (fun _ => kt h H locs ls hP hS hl) (fun q => absurd h q)
  · exact fun H locs ls hP hS hl => lv_if_eq C.1.1 C.1.2.1 hdg ht (fun q => absurd q h) (fun _ => kf h H locs ls hP hS hl)
theorem zs_if_eqP (C : zs_C p s m args meth c cc nL Ts own D cl tys N ad) {x : Int32} {σ0 : zs_T} {r1 r2 : Int32} {off : Int} {tgt : Nat} (hdg : decode cc pc = .ok (.ifCond .eq off, 3)) (ht : (pc : Int) + off = (tgt : Int))
    (kt : x = 0 → zs_Z p l e R s m args below meth c D cl N ad wf nL ov (σ0, r1) σ tgt lv (st))
    (kf : ¬ x = 0 → zs_Z p l e R s m args below meth c D cl N ad wf nL ov (σ0, r2) σ (pc + 3) lv (st)) : zs_Z p l e R s m args below meth c D cl N ad wf nL ov (σ0, if x = 0 then r1 else r2) σ pc lv (.int x :: st) := by
  refine zs_ifP (fun h => ?_) (fun h => ?_)
  · exact fun H locs ls hP hS hl => lv_if_eq C.1.1 C.1.2.1 hdg ht (fun _ => kt h H locs ls hP hS hl) (fun q => absurd h q)
  · exact fun H locs ls hP hS hl => lv_if_eq C.1.1 C.1.2.1 hdg ht (fun q => absurd q h) (fun _ => kf h H locs ls hP hS hl)
theorem zs_if_eqQ (C : zs_C p s m args meth c cc nL Ts own D cl tys N ad) {x : Int32}  {off : Int} {tgt : Nat} (hdg : decode cc pc = .ok (.ifCond .eq off, 3)) (ht : (pc : Int) + off = (tgt : Int))
    (kt : x = 0 → zs_Z p l e R s m args below meth c D cl N ad wf nL ov out σ tgt lv (st))
    (kf : ¬ x = 0 → zs_Z p l e R s m args below meth c D cl N ad wf nL ov out σ (pc + 3) lv (st)) : zs_Z p l e R s m args below meth c D cl N ad wf nL ov out σ pc lv (.int x :: st) := by
  refine zs_ifQ (cnd := x = 0) (fun h => ?_) (fun h => ?_)
  · exact fun H locs ls hP hS hl => lv_if_eq C.1.1 C.1.2.1 hdg ht (fun _ => kt h H locs ls hP hS hl) (fun q => absurd h q)
  · exact fun H locs ls hP hS hl => lv_if_eq C.1.1 C.1.2.1 hdg ht (fun q => absurd q h) (fun _ => kf h H locs ls hP hS hl)
theorem zs_if_ne (C : zs_C p s m args meth c cc nL Ts own D cl tys N ad) {x : Int32} {o1 o2 : zs_O} {off : Int} {tgt : Nat} (hdg : decode cc pc = .ok (.ifCond .ne off, 3)) (ht : (pc : Int) + off = (tgt : Int))
    (kt : x = 0 → zs_Z p l e R s m args below meth c D cl N ad wf nL ov o1 σ (pc + 3) lv (st))
    (kf : ¬ x = 0 → zs_Z p l e R s m args below meth c D cl N ad wf nL ov o2 σ tgt lv (st)) : zs_Z p l e R s m args below meth c D cl N ad wf nL ov (if x = 0 then o1 else o2) σ pc lv (.int x :: st) := by
  refine zs_if (fun h => ?_) (fun h => ?_)
  · exact fun H locs ls hP hS hl => lv_if_ne C.1.1 C.1.2.1 hdg ht (fun q => absurd h q) (fun _ => kt h H locs ls hP hS hl)
  · exact fun H locs ls hP hS hl => lv_if_ne C.1.1 C.1.2.1 hdg ht (fun _ => kf h H locs ls hP hS hl) (fun q => absurd q h)
theorem zs_if_neP (C : zs_C p s m args meth c cc nL Ts own D cl tys N ad) {x : Int32} {σ0 : zs_T} {r1 r2 : Int32} {off : Int} {tgt : Nat} (hdg : decode cc pc = .ok (.ifCond .ne off, 3)) (ht : (pc : Int) + off = (tgt : Int))
    (kt : x = 0 → zs_Z p l e R s m args below meth c D cl N ad wf nL ov (σ0, r1) σ (pc + 3) lv (st))
    (kf : ¬ x = 0 → zs_Z p l e R s m args below meth c D cl N ad wf nL ov (σ0, r2) σ tgt lv (st)) : zs_Z p l e R s m args below meth c D cl N ad wf nL ov (σ0, if x = 0 then r1 else r2) σ pc lv (.int x :: st) := by
  refine zs_ifP (fun h => ?_) (fun h => ?_)
  · exact fun H locs ls hP hS hl => lv_if_ne C.1.1 C.1.2.1 hdg ht (fun q => absurd h q) (fun _ => kt h H locs ls hP hS hl)
  · exact fun H locs ls hP hS hl => lv_if_ne C.1.1 C.1.2.1 hdg ht (fun _ => kf h H locs ls hP hS hl) (fun q => absurd q h)
theorem zs_if_neQ (C : zs_C p s m args meth c cc nL Ts own D cl tys N ad) {x : Int32}  {off : Int} {tgt : Nat} (hdg : decode cc pc = .ok (.ifCond .ne off, 3)) (ht : (pc : Int) + off = (tgt : Int))
    (kt : x = 0 → zs_Z p l e R s m args below meth c D cl N ad wf nL ov out σ (pc + 3) lv (st))
    (kf : ¬ x = 0 → zs_Z p l e R s m args below meth c D cl N ad wf nL ov out σ tgt lv (st)) : zs_Z p l e R s m args below meth c D cl N ad wf nL ov out σ pc lv (.int x :: st) := by
  refine zs_ifQ (cnd := x = 0) (fun h => ?_) (fun h => ?_)
  · exact fun H locs ls hP hS hl => lv_if_ne C.1.1 C.1.2.1 hdg ht (fun q => absurd h q) (fun _ => kt h H locs ls hP hS hl)
  · exact fun H locs ls hP hS hl => lv_if_ne C.1.1 C.1.2.1 hdg ht (fun _ => kf h H locs ls hP hS hl) (fun q => absurd q h)
theorem zs_if_lt (C : zs_C p s m args meth c cc nL Ts own D cl tys N ad) {x : Int32} {o1 o2 : zs_O} {off : Int} {tgt : Nat} (hdg : decode cc pc = .ok (.ifCond .lt off, 3)) (ht : (pc : Int) + off = (tgt : Int))
    (kt : x < 0 → zs_Z p l e R s m args below meth c D cl N ad wf nL ov o1 σ tgt lv (st))
    (kf : ¬ x < 0 → zs_Z p l e R s m args below meth c D cl N ad wf nL ov o2 σ (pc + 3) lv (st)) : zs_Z p l e R s m args below meth c D cl N ad wf nL ov (if x < 0 then o1 else o2) σ pc lv (.int x :: st) := by
  refine zs_if (fun h => ?_) (fun h => ?_)
  · exact fun H locs ls hP hS hl => lv_if_lt C.1.1 C.1.2.1 hdg ht (fun _ => kt h H locs ls hP hS hl) (fun q => absurd h q)
  · exact fun H locs ls hP hS hl => lv_if_lt C.1.1 C.1.2.1 hdg ht (fun q => absurd q h) (fun _ => kf h H locs ls hP hS hl)
theorem zs_if_ltP (C : zs_C p s m args meth c cc nL Ts own D cl tys N ad) {x : Int32} {σ0 : zs_T} {r1 r2 : Int32} {off : Int} {tgt : Nat} (hdg : decode cc pc = .ok (.ifCond .lt off, 3)) (ht : (pc : Int) + off = (tgt : Int))
    (kt : x < 0 → zs_Z p l e R s m args below meth c D cl N ad wf nL ov (σ0, r1) σ tgt lv (st))
    (kf : ¬ x < 0 → zs_Z p l e R s m args below meth c D cl N ad wf nL ov (σ0, r2) σ (pc + 3) lv (st)) : zs_Z p l e R s m args below meth c D cl N ad wf nL ov (σ0, if x < 0 then r1 else r2) σ pc lv (.int x :: st) := by
  refine zs_ifP (fun h => ?_) (fun h => ?_)
  · exact fun H locs ls hP hS hl => lv_if_lt C.1.1 C.1.2.1 hdg ht (fun _ => kt h H locs ls hP hS hl) (fun q => absurd h q)
  · exact fun H locs ls hP hS hl => lv_if_lt C.1.1 C.1.2.1 hdg ht (fun q => absurd q h) (fun _ => kf h H locs ls hP hS hl)
theorem zs_if_ltQ (C : zs_C p s m args meth c cc nL Ts own D cl tys N ad) {x : Int32}  {off : Int} {tgt : Nat} (hdg : decode cc pc = .ok (.ifCond .lt off, 3)) (ht : (pc : Int) + off = (tgt : Int))
    (kt : x < 0 → zs_Z p l e R s m args below meth c D cl N ad wf nL ov out σ tgt lv (st))
    (kf : ¬ x < 0 → zs_Z p l e R s m args below meth c D cl N ad wf nL ov out σ (pc + 3) lv (st)) : zs_Z p l e R s m args below meth c D cl N ad wf nL ov out σ pc lv (.int x :: st) := by
  refine zs_ifQ (cnd := x < 0) (fun h => ?_) (fun h => ?_)
  · exact fun H locs ls hP hS hl => lv_if_lt C.1.1 C.1.2.1 hdg ht (fun _ => kt h H locs ls hP hS hl) (fun q => absurd h q)
  · exact fun H locs ls hP hS hl => lv_if_lt C.1.1 C.1.2.1 hdg ht (fun q => absurd q h) (fun _ => kf h H locs ls hP hS hl)
theorem zs_if_ge (C : zs_C p s m args meth c cc nL Ts own D cl tys N ad) {x : Int32} {o1 o2 : zs_O} {off : Int} {tgt : Nat} (hdg : decode cc pc = .ok (.ifCond .ge off, 3)) (ht : (pc : Int) + off = (tgt : Int))
    (kt : x < 0 → zs_Z p l e R s m args below meth c D cl N ad wf nL ov o1 σ (pc + 3) lv (st))
    (kf : ¬ x < 0 → zs_Z p l e R s m args below meth c D cl N ad wf nL ov o2 σ tgt lv (st)) : zs_Z p l e R s m args below meth c D cl N ad wf nL ov (if x < 0 then o1 else o2) σ pc lv (.int x :: st) := by
  refine zs_if (fun h => ?_) (fun h => ?_)
  · exact fun H locs ls hP hS hl => lv_if_ge C.1.1 C.1.2.1 hdg ht (fun q => absurd h (zs_nlt.mpr q)) (fun _ => kt h H locs ls hP hS hl)
  · exact fun H locs ls hP hS hl => lv_if_ge C.1.1 C.1.2.1 hdg ht (fun _ => kf h H locs ls hP hS hl) (fun q => absurd (zs_nlt.mp h) q)
theorem zs_if_geP (C : zs_C p s m args meth c cc nL Ts own D cl tys N ad) {x : Int32} {σ0 : zs_T} {r1 r2 : Int32} {off : Int} {tgt : Nat} (hdg : decode cc pc = .ok (.ifCond .ge off, 3)) (ht : (pc : Int) + off = (tgt : Int))
    (kt : x < 0 → zs_Z p l e R s m args below meth c D cl N ad wf nL ov (σ0, r1) σ (pc + 3) lv (st))
    (kf : ¬ x < 0 → zs_Z p l e R s m args below meth c D cl N ad wf nL ov (σ0, r2) σ tgt lv (st)) : zs_Z p l e R s m args below meth c D cl N ad wf nL ov (σ0, if x < 0 then r1 else r2) σ pc lv (.int x :: st) := by
  refine zs_ifP (fun h => ?_) (fun h => ?_)
  · exact fun H locs ls hP hS hl => lv_if_ge C.1.1 C.1.2.1 hdg ht (fun q => absurd h (zs_nlt.mpr q)) (fun _ => kt h H locs ls hP hS hl)
  · exact fun H locs ls hP hS hl => lv_if_ge C.1.1 C.1.2.1 hdg ht (fun _ => kf h H locs ls hP hS hl) (fun q => absurd (zs_nlt.mp h) q)
theorem zs_if_geQ (C : zs_C p s m args meth c cc nL Ts own D cl tys N ad) {x : Int32}  {off : Int} {tgt : Nat} (hdg : decode cc pc = .ok (.ifCond .ge off, 3)) (ht : (pc : Int) + off = (tgt : Int))
    (kt : x < 0 → zs_Z p l e R s m args below meth c D cl N ad wf nL ov out σ (pc + 3) lv (st))
    (kf : ¬ x < 0 → zs_Z p l e R s m args below meth c D cl N ad wf nL ov out σ tgt lv (st)) : zs_Z p l e R s m args below meth c D cl N ad wf nL ov out σ pc lv (.int x :: st) := by
  refine zs_ifQ (cnd := x < 0) (fun h => ?_) (fun h => ?_)
  · exact fun H locs ls hP hS hl => lv_if_ge C.1.1 C.1.2.1 hdg ht (fun q => absurd h (zs_nlt.mpr q)) (fun _ => kt h H locs ls hP hS hl)
  · exact fun H locs ls hP hS hl => lv_if_ge C.1.1 C.1.2.1 hdg ht (fun _ => kf h H locs ls hP hS hl) (fun q => absurd (zs_nlt.mp h) q)
theorem zs_if_gt (C : zs_C p s m args meth c cc nL Ts own D cl tys N ad) {x : Int32} {o1 o2 : zs_O} {off : Int} {tgt : Nat} (hdg : decode cc pc = .ok (.ifCond .gt off, 3)) (ht : (pc : Int) + off = (tgt : Int))
    (kt : 0 < x → zs_Z p l e R s m args below meth c D cl N ad wf nL ov o1 σ tgt lv (st))
    (kf : ¬ 0 < x → zs_Z p l e R s m args below meth c D cl N ad wf nL ov o2 σ (pc + 3) lv (st)) : zs_Z p l e R s m args below meth c D cl N ad wf nL ov (if 0 < x then o1 else o2) σ pc lv (.int x :: st) := by
  refine zs_if (fun h => ?_) (fun h => ?_)
  · exact fun H locs ls hP hS hl => lv_if_gt C.1.1 C.1.2.1 hdg ht (fun _ => kt h H locs ls hP hS hl) (fun q => absurd h q)
  · exact fun H locs ls hP hS hl => lv_if_gt C.1.1 C.1.2.1 hdg ht (fun q => absurd q h) (fun _ => kf h H locs ls hP hS hl)
theorem zs_if_gtP (C : zs_C p s m args meth c cc nL Ts own D cl tys N ad) {x : Int32} {σ0 : zs_T} {r1 r2 : Int32} {off : Int} {tgt : Nat} (hdg : decode cc pc = .ok (.ifCond .gt off, 3)) (ht : (pc : Int) + off = (tgt : Int))
    (kt : 0 < x → zs_Z p l e R s m args below meth c D cl N ad wf nL ov (σ0, r1) σ tgt lv (st))
    (kf : ¬ 0 < x → zs_Z p l e R s m args below meth c D cl N ad wf nL ov (σ0, r2) σ (pc + 3) lv (st)) : zs_Z p l e R s m args below meth c D cl N ad wf nL ov (σ0, if 0 < x then r1 else r2) σ pc lv (.int x :: st) := by
  refine zs_ifP (fun h => ?_) (fun h => ?_)
  · exact fun H locs ls hP hS hl => lv_if_gt C.1.1 C.1.2.1 hdg ht (fun _ => kt h H locs ls hP hS hl) (fun q => absurd h q)
  · exact fun H locs ls hP hS hl => lv_if_gt C.1.1 C.1.2.1 hdg ht (fun q => absurd q h) (fun _ => kf h H locs ls hP hS hl)
theorem zs_if_gtQ (C : zs_C p s m args meth c cc nL Ts own D cl tys N ad) {x : Int32}  {off : Int} {tgt : Nat} (hdg : decode cc pc = .ok (.ifCond .gt off, 3)) (ht : (pc : Int) + off = (tgt : Int))
    (kt : 0 < x → zs_Z p l e R s m args below meth c D cl N ad wf nL ov out σ tgt lv (st))
    (kf : ¬ 0 < x → zs_Z p l e R s m args below meth c D cl N ad wf nL ov out σ (pc + 3) lv (st)) : zs_Z p l e R s m args below meth c D cl N ad wf nL ov out σ pc lv (.int x :: st) := by
  refine zs_ifQ (cnd := 0 < x) (fun h => ?_) (fun h => ?_)
  · exact fun H locs ls hP hS hl => lv_if_gt C.1.1 C.1.2.1 hdg ht (fun _ => kt h H locs ls hP hS hl) (fun q => absurd h q)
  · exact fun H locs ls hP hS hl => lv_if_gt C.1.1 C.1.2.1 hdg ht (fun q => absurd q h) (fun _ => kf h H locs ls hP hS hl)
theorem zs_if_le (C : zs_C p s m args meth c cc nL Ts own D cl tys N ad) {x : Int32} {o1 o2 : zs_O} {off : Int} {tgt : Nat} (hdg : decode cc pc = .ok (.ifCond .le off, 3)) (ht : (pc : Int) + off = (tgt : Int))
    (kt : 0 < x → zs_Z p l e R s m args below meth c D cl N ad wf nL ov o1 σ (pc + 3) lv (st))
    (kf : ¬ 0 < x → zs_Z p l e R s m args below meth c D cl N ad wf nL ov o2 σ tgt lv (st)) : zs_Z p l e R s m args below meth c D cl N ad wf nL ov (if 0 < x then o1 else o2) σ pc lv (.int x :: st) := by
  refine zs_if (fun h => ?_) (fun h => ?_)
  · exact fun H locs ls hP hS hl => lv_if_le C.1.1 C.1.2.1 hdg ht (fun q => absurd h (zs_nlt.mpr q)) (fun _ => kt h H locs ls hP hS hl)
  · exact fun H locs ls hP hS hl => lv_if_le C.1.1 C.1.2.1 hdg ht (fun _ => kf h H locs ls hP hS hl) (fun q => absurd (zs_nlt.mp h) q)
theorem zs_if_leP (C : zs_C p s m args meth c cc nL Ts own D cl tys N ad) {x : Int32} {σ0 : zs_T} {r1 r2 : Int32} {off : Int} {tgt : Nat} (hdg : decode cc pc = .ok (.ifCond .le off, 3)) (ht : (pc : Int) + off = (tgt : Int))
    (kt : 0 < x → zs_Z p l e R s m args below meth c D cl N ad wf nL ov (σ0, r1) σ (pc + 3) lv (st))
    (kf : ¬ 0 < x → zs_Z p l e R s m args below meth c D cl N ad wf nL ov (σ0, r2) σ tgt lv (st)) : zs_Z p l e R s m args below meth c D cl N ad wf nL ov (σ0, if 0 < x then r1 else r2) σ pc lv (.int x :: st) := by
  refine zs_ifP (fun h => ?_) (fun h => ?_)
  · exact fun H locs ls hP hS hl => lv_if_le C.1.1 C.1.2.1 hdg ht (fun q => absurd h (zs_nlt.mpr q)) (fun _ => kt h H locs ls hP hS hl)
  · exact fun H locs ls hP hS hl => lv_if_le C.1.1 C.1.2.1 hdg ht (fun _ => kf h H locs ls hP hS hl) (fun q => absurd (zs_nlt.mp h) q)
theorem zs_if_leQ (C : zs_C p s m args meth c cc nL Ts own D cl tys N ad) {x : Int32}  {off : Int} {tgt : Nat} (hdg : decode cc pc = .ok (.ifCond .le off, 3)) (ht : (pc : Int) + off = (tgt : Int))
    (kt : 0 < x → zs_Z p l e R s m args below meth c D cl N ad wf nL ov out σ (pc + 3) lv (st))
    (kf : ¬ 0 < x → zs_Z p l e R s m args below meth c D cl N ad wf nL ov out σ tgt lv (st)) : zs_Z p l e R s m args below meth c D cl N ad wf nL ov out σ pc lv (.int x :: st) := by
  refine zs_ifQ (cnd := 0 < x) (fun h => ?_) (fun h => ?_)
  · exact fun H locs ls hP hS hl => lv_if_le C.1.1 C.1.2.1 hdg ht (fun q => absurd h (zs_nlt.mpr q)) (fun _ => kt h H locs ls hP hS hl)
  · exact fun H locs ls hP hS hl => lv_if_le C.1.1 C.1.2.1 hdg ht (fun _ => kf h H locs ls hP hS hl) (fun q => absurd (zs_nlt.mp h) q)
theorem zs_tabIn (C : zs_C p s m args meth c cc nL Ts own D cl tys N ad) {dflt lo hi : Int} {offs : Array Int} {len : Nat} {x kx : Int32} {off : Int} {tgt : Nat} (hdg : decode cc pc = .ok (.tableswitch dflt lo hi offs, len)) (hx : x = kx) (h1 : ¬ kx.toInt < lo) (h2 : ¬ hi < kx.toInt) (ho : offs[(kx.toInt - lo).toNat]? = some off) (ht : (pc : Int) + off = (tgt : Int))
    (kk : zs_Z p l e R s m args below meth c D cl N ad wf nL ov out σ tgt lv (st)) : zs_Z p l e R s m args below meth c D cl N ad wf nL ov out σ pc lv (.int x :: st) :=
  fun H locs ls hP hS hl => by subst hx; exact lv_tableIn C.1.1 C.1.2.1 hdg h1 h2 ho ht (kk H locs ls hP hS hl)
theorem zs_tabOut (C : zs_C p s m args meth c cc nL Ts own D cl tys N ad) {dflt lo hi : Int} {offs : Array Int} {len : Nat} {x : Int32} {tgt : Nat} (hdg : decode cc pc = .ok (.tableswitch dflt lo hi offs, len)) (h : x.toInt < lo ∨ hi < x.toInt) (ht : (pc : Int) + dflt = (tgt : Int))
    (kk : zs_Z p l e R s m args below meth c D cl N ad wf nL ov out σ tgt lv (st)) : zs_Z p l e R s m args below meth c D cl N ad wf nL ov out σ pc lv (.int x :: st) :=
  fun H locs ls hP hS hl => lv_tableOut C.1.1 C.1.2.1 hdg h ht (kk H locs ls hP hS hl)
theorem zs_lookup (C : zs_C p s m args meth c cc nL Ts own D cl tys N ad) {dflt : Int} {ps : Array (Int × Int)} {len : Nat} {x : Int32} {off : Int} {tgt : Nat} (hdg : decode cc pc = .ok (.lookupswitch dflt ps, len)) (hp : (ps.toList.zip (ps.toList.drop 1)).all (fun (a, next) => a.1 < next.1) = true) (ho : Op.lookupswitch.offset ps.toList dflt x.toInt = off) (ht : (pc : Int) + off = (tgt : Int))
    (kk : zs_Z p l e R s m args below meth c D cl N ad wf nL ov out σ tgt lv (st)) : zs_Z p l e R s m args below meth c D cl N ad wf nL ov out σ pc lv (.int x :: st) :=
  fun H locs ls hP hS hl => lv_lookup C.1.1 C.1.2.1 hdg hp ho ht (kk H locs ls hP hS hl)
theorem zs_get (C : zs_C p s m args meth c cc nL Ts own D cl tys N ad) {Cn : String} {T : u_T} {NF ci index : Nat} (hin : ∀ w ∈ u_ws Cn T NF, w ∈ Ts) (q0 : Nat) (hq : q0 < N) {fs : List Value} (he : wf σ q0 = .inr (ci, fs)) (hc : cl[ci]? = some (Cn, T, NF)) (k : Nat) (hk : k < NF) (hlink : Cond.fieldLink own index (T k).1 (T k).2.1 (T k).2.2.1 ∈ Ts) {v : Value} (hv : fs[k]? = some v) (hdg : decode cc pc = .ok (.getfield index, 3))
    (kk : zs_Z p l e R s m args below meth c D cl N ad wf nL ov out σ (pc + 3) lv (v :: st)) : zs_Z p l e R s m args below meth c D cl N ad wf nL ov out σ pc lv (.ref (ad q0) :: st) :=
  fun H locs ls hP hS hl => va_get C.1.1 C.1.2.1 C.1.2.2.2.2 hin C.1.2.2.2.1 C.2.1 hP q0 (by rw [zs_wl_get hq, he]) hc k hk (C.1.2.2.2.2 _ hlink) (fun _ h => h) hv hdg (kk H locs ls hP hS hl)
theorem zs_put (C : zs_C p s m args meth c cc nL Ts own D cl tys N ad) {Cn : String} {T : u_T} {NF ci index : Nat} (hin : ∀ w ∈ u_ws Cn T NF, w ∈ Ts) (ty0 : Nat → FieldType) (hty : ∀ k, k < NF → parseFieldDescriptor (T k).2.2.1 = some (ty0 k)) (hnm : ∀ a, a < NF → ∀ b, b < NF → a ≠ b → (T a).2.1 ≠ (T b).2.1) (q0 : Nat) {fs : List Value} (he : wf σ q0 = .inr (ci, fs)) (hc : cl[ci]? = some (Cn, T, NF)) (k : Nat) (hk : k < NF) (hlink : Cond.fieldLink own index (T k).1 (T k).2.1 (T k).2.2.1 ∈ Ts) (hfin : (T k).2.2.2 = false) {ty : FieldType} {v : Value} (hd : parseFieldDescriptor (T k).2.2.1 = some ty) (hn : narrow ty v = v) (hfit : fits ty v = true) (hlf : k < fs.length) {σ' : zs_T} (hset : zs_S N wf σ q0 (.inr (ci, fs.set k v)) σ') (hdg : decode cc pc = .ok (.putfield index, 3))
    (kk : zs_Z p l e R s m args below meth c D cl N ad wf nL ov out σ' (pc + 3) lv (st)) : zs_Z p l e R s m args below meth c D cl N ad wf nL ov out σ pc lv (v :: .ref (ad q0) :: st) :=
  fun H locs ls hP hS hl => va_put C.1.1 C.1.2.1 C.1.2.2.2.2 hin ty0 hty hnm C.1.2.2.2.1 C.2.1 hP (zs_D C.2.2.1) hS q0 (by rw [zs_wl_get hset.1, he]) hc k hk (C.1.2.2.2.2 _ hlink) (fun _ h => h) hfin hd hn hfit hlf hdg (fun H1 locs1 hP1 _ hS1 => kk H1 locs1 ls (by rw [← zs_wl_set hset]; exact hP1) hS1 hl)
theorem zs_iald (C : zs_C p s m args meth c cc nL Ts own D cl tys N ad) (q0 t0 : Nat) (hq : q0 < N) {cA : ClassId} {n : Nat} {f : Nat → Int32} (he : wf σ q0 = .inl (cA, n, .inl f)) (ht : tys[t0]? = some (cA, .int)) {i : Int32} (hin : vp_in i n) (hdg : decode cc pc = .ok (.iaload, 1))
    (kk : zs_Z p l e R s m args below meth c D cl N ad wf nL ov out σ (pc + 1) lv (.int (f i.toNatClampNeg) :: st)) : zs_Z p l e R s m args below meth c D cl N ad wf nL ov out σ pc lv (.int i :: .ref (ad q0) :: st) :=
  fun H locs ls hP hS hl => va_iald C.1.1 C.1.2.1 C.2.1 hP q0 t0 (by rw [zs_wl_get hq, he]) ht hin hdg (kk H locs ls hP hS hl)
theorem zs_zald (C : zs_C p s m args meth c cc nL Ts own D cl tys N ad) (q0 t0 : Nat) (hq : q0 < N) {cA : ClassId} {n : Nat} {f : Nat → Int32} (he : wf σ q0 = .inl (cA, n, .inl f)) (ht : tys[t0]? = some (cA, .boolean)) {i : Int32} (hin : vp_in i n) (hdg : decode cc pc = .ok (.baload, 1))
    (kk : zs_Z p l e R s m args below meth c D cl N ad wf nL ov out σ (pc + 1) lv (.int (f i.toNatClampNeg) :: st)) : zs_Z p l e R s m args below meth c D cl N ad wf nL ov out σ pc lv (.int i :: .ref (ad q0) :: st) :=
  fun H locs ls hP hS hl => va_zald C.1.1 C.1.2.1 C.2.1 hP q0 t0 (by rw [zs_wl_get hq, he]) ht hin hdg (kk H locs ls hP hS hl)
theorem zs_aald (C : zs_C p s m args meth c cc nL Ts own D cl tys N ad) (q0 t0 : Nat) (hq : q0 < N) {cA : ClassId} {Cn : String} {n : Nat} {f : Nat → Option Nat} (he : wf σ q0 = .inl (cA, n, .inr (.inr (.inr (.inr f))))) (ht : tys[t0]? = some (cA, .object Cn)) {i : Int32} (hin : vp_in i n) {a1 : Nat} (hv : f i.toNatClampNeg = some a1) (hdg : decode cc pc = .ok (.aaload, 1))
    (kk : zs_Z p l e R s m args below meth c D cl N ad wf nL ov out σ (pc + 1) lv (.ref a1 :: st)) : zs_Z p l e R s m args below meth c D cl N ad wf nL ov out σ pc lv (.int i :: .ref (ad q0) :: st) :=
  fun H locs ls hP hS hl => va_aldq C.1.1 C.1.2.1 C.2.1 hP q0 t0 (by rw [zs_wl_get hq, he]) ht hin hdg (by rw [hv]; exact kk H locs ls hP hS hl)
theorem zs_iast (C : zs_C p s m args meth c cc nL Ts own D cl tys N ad) (q0 t0 : Nat) {cA : ClassId} {n : Nat} {f : Nat → Int32} (he : wf σ q0 = .inl (cA, n, .inl f)) (ht : tys[t0]? = some (cA, .int)) {i x : Int32} (hin : vp_in i n) {σ' : zs_T} (hset : zs_S N wf σ q0 (.inl (cA, n, .inl (upd f i.toNatClampNeg x))) σ') (hdg : decode cc pc = .ok (.iastore, 1))
    (kk : zs_Z p l e R s m args below meth c D cl N ad wf nL ov out σ' (pc + 1) lv (st)) : zs_Z p l e R s m args below meth c D cl N ad wf nL ov out σ pc lv (.int x :: .int i :: .ref (ad q0) :: st) :=
  fun H locs ls hP hS hl => va_iast C.1.1 C.1.2.1 C.2.1 hP (zs_D C.2.2.1) hS q0 t0 (by rw [zs_wl_get hset.1, he]) ht hin hdg (fun H1 locs1 hP1 _ hS1 => kk H1 locs1 ls (by rw [← zs_wl_set hset]; exact hP1) hS1 hl)
theorem zs_zast (C : zs_C p s m args meth c cc nL Ts own D cl tys N ad) (q0 t0 : Nat) {cA : ClassId} {n : Nat} {f : Nat → Int32} (he : wf σ q0 = .inl (cA, n, .inl f)) (ht : tys[t0]? = some (cA, .boolean)) {i x : Int32} (hin : vp_in i n) {σ' : zs_T} (hset : zs_S N wf σ q0 (.inl (cA, n, .inl (upd f i.toNatClampNeg (vp_nar .boolean x)))) σ') (hdg : decode cc pc = .ok (.bastore, 1))
    (kk : zs_Z p l e R s m args below meth c D cl N ad wf nL ov out σ' (pc + 1) lv (st)) : zs_Z p l e R s m args below meth c D cl N ad wf nL ov out σ pc lv (.int x :: .int i :: .ref (ad q0) :: st) :=
  fun H locs ls hP hS hl => va_zast C.1.1 C.1.2.1 C.2.1 hP (zs_D C.2.2.1) hS q0 t0 (by rw [zs_wl_get hset.1, he]) ht hin hdg (fun H1 locs1 hP1 _ hS1 => kk H1 locs1 ls (by rw [← zs_wl_set hset]; exact hP1) hS1 hl)
theorem zs_alen (C : zs_C p s m args meth c cc nL Ts own D cl tys N ad) (q0 t0 : Nat) (hq : q0 < N) {cA : ClassId} {x : vp_A} (he : wf σ q0 = .inl (cA, x)) {ty : FieldType} (ht : tys[t0]? = some (cA, ty)) {v : Int32} (hv : Int32.ofNat x.1 = v) (hdg : decode cc pc = .ok (.arraylength, 1))
    (kk : zs_Z p l e R s m args below meth c D cl N ad wf nL ov out σ (pc + 1) lv (.int v :: st)) : zs_Z p l e R s m args below meth c D cl N ad wf nL ov out σ pc lv (.ref (ad q0) :: st) :=
  fun H locs ls hP hS hl => va_alen C.1.1 C.1.2.1 C.2.1 hP q0 t0 (by rw [zs_wl_get hq, he]) ht hv hdg (kk H locs ls hP hS hl)
theorem zs_iret (C : zs_C p s m args meth c cc nL Ts own D cl tys N ad) (hr : meth.sig.returnType = some .int) {v : Int32} (hdg : decode cc pc = .ok (.ireturn, 1)) : zs_Z p l e R s m args below meth c D cl N ad wf nL zs_vi (σ, v) σ pc lv [.int v] :=
  fun H locs ls hP hS hl => W.iret C.1.1 C.1.2.1 hr (fun t ht hW => ⟨⟨rfl, by rw [ht]; exact hP⟩, hS.F ht⟩) hS.2.2 hdg C.2.2.2
theorem zs_zret (C : zs_C p s m args meth c cc nL Ts own D cl tys N ad) (hr : meth.sig.returnType = some .boolean) {v : Int32} (hn : narrow .boolean (.int v) = .int v) (hdg : decode cc pc = .ok (.ireturn, 1)) : zs_Z p l e R s m args below meth c D cl N ad wf nL zs_vi (σ, v) σ pc lv [.int v] :=
  fun H locs ls hP hS hl => W.zret C.1.1 C.1.2.1 hr hn (fun t ht hW => ⟨⟨rfl, by rw [ht]; exact hP⟩, hS.F ht⟩) hS.2.2 hdg C.2.2.2
theorem zs_vret (C : zs_C p s m args meth c cc nL Ts own D cl tys N ad) (hr : meth.sig.returnType = none) (hdg : decode cc pc = .ok (.return_, 1)) : zs_Z p l e R s m args below meth c D cl N ad wf nL zs_vv (σ, 0) σ pc lv [] :=
  fun H locs ls hP hS hl => W.vret C.1.1 C.1.2.1 hr (fun t ht hW => ⟨⟨rfl, by rw [ht]; exact hP⟩, hS.F ht⟩) hS.2.2 hdg C.2.2.2
/-- fewer locals, or in another order -/
theorem zs_sub (ks : List Nat) (hks : lv_pick lv ks = lv') (kk : zs_Z p l e R s m args below meth c D cl N ad wf nL ov out σ pc lv' (st)) : zs_Z p l e R s m args below meth c D cl N ad wf nL ov out σ pc lv (st) :=
  fun H locs ls hP hS hl => kk H locs ls hP hS (lv_sub hl ks hks)
theorem zs_blind {av : List Value} {sz : Nat} : FrameBlind (va_Pc av (fun U => U.heap.size = sz ∧ va_P D cl (zs_wl N ad (wf σ)) U.heap ∧ va_K D cl tys U)) :=
  fun a U g mk q => by obtain ⟨q0, q1, qP, qK⟩ := q; exact ⟨q0, q1, qP, va_K.moved (u := U) (U := U.calling g mk a) (Vm.Alike.refl U.vm) qK⟩
/-- behind a call -/
theorem zs_back {ov1 : Int32 → Option Value} {out1 : zs_O} {H : Heap} {locs : List Loc} {ls : Array Slot} {a : Array Value} {st0 : List Value} (hS : va_S (zs_A N ad s.heap.size) s.heap H locs) (hl : lv_has ls nL lv)
    (hr : va_Run p l e R s m args below meth c H locs 0 0 0 0 (F0 m pc ls st0) rest (zs_Q D cl N ad wf H.size ov1 out1 a) (zs_A N ad H.size))
    (kk : zs_Z p l e R s m args below meth c D cl N ad wf nL ov out out1.1 (pc + 3) lv ((ov1 out1.2).toList ++ rest)) : W p l e R s m args below meth c H locs 0 0 (MQ below (zs_Q D cl N ad wf s.heap.size ov out) args s 0 0 (zs_A N ad s.heap.size)) (F0 m pc ls st0) := by
  intro T hT X
  obtain ⟨v, st₀, t, T', L, h0, X', hL, e1, e2, ⟨⟨hv, hp⟩, hz, hk⟩, st⟩ := hr T hT X
  have hv := Outcome.returned.inj hv
  subst hv
  rw [h0] at hz hk
  obtain ⟨t2, a1, b1⟩ := kk T'.heap (locs ++ L) ls (by rw [e1]; exact hp)
    ⟨Nat.le_trans hS.1 (by rw [e1]; exact hz), fun q h1 h2 => by rw [e1, hk q (Nat.lt_of_lt_of_le h1 hS.1) (fun z => h2 (zs_A.mono hS.1 z))]; exact hS.2.1 q h1 h2, fun q hq => by
      rcases List.mem_append.mp hq with h | h
      · exact hS.2.2 q h
      · exact zs_A.mono hS.1 (hL q h)⟩ hl T' rfl X'
  exact ⟨t2, st t2 a1, b1⟩
theorem zs_callVi (C : zs_C p s m args meth c cc nL Ts own D cl tys N ad) {y : MethodName} {ws : List Cond} {rm : Room} {q0 ci n index maxL : Nat} {As : List Value} {out1 : zs_O} {bytes : ByteArray} {ret : Option FieldType} {fs : List Value} {q1 : vw_C} (hM : zs_M l D cl tys N ad wf y ws rm (.ref (ad q0) :: As) zs_vi σ out1) (cw : CallW R s args own q1.1 index y bytes maxL ret ws rm 0 0 n) (hq : q0 < N) (he : wf σ q0 = .inr (ci, fs)) (hc : cl[ci]? = some q1) (hn : As.length = n) {st0 : List Value} (hst : st0 = As.reverse ++ .ref (ad q0) :: rest) (hW : (rest.map fun v => v.category).sum ≤ 8) (hdg : decode cc pc = .ok (.invokevirtual index, 3))
    (kk : zs_Z p l e R s m args below meth c D cl N ad wf nL ov out out1.1 (pc + 3) lv (.int out1.2 :: rest)) : zs_Z p l e R s m args below meth c D cl N ad wf nL ov out σ pc lv (st0) := by
  intro H locs ls hP hS hl
  refine zs_back hS hl (va_runV C.1 (hM H.size) cw ⟨zs_blind, va_recv C.2.1 hP hc (by rw [zs_wl_get hq, he]), fun U hU hW => ⟨rfl, by rw [hU], by rw [hU]; exact hP, va_K.moved hW.alike C.2.1⟩⟩ rfl hn hl.1 hst (lv_room hW) hdg ⟨Nat.zero_le _, Nat.zero_le _⟩) kk
theorem zs_callSi (C : zs_C p s m args meth c cc nL Ts own D cl tys N ad) {y : MethodName} {ws : List Cond} {rm : Room} {n index maxL : Nat} {As : List Value} {out1 : zs_O} {bytes : ByteArray} {ret : Option FieldType} (hM : zs_M l D cl tys N ad wf y ws rm As zs_vi σ out1) (cw : CallB R s args own index y bytes maxL ret ws rm 0 0 n ∧ (Cond.static y).before args s = true) (hn : As.length = n) {st0 : List Value} (hst : st0 = As.reverse ++ rest) (hW : (rest.map fun v => v.category).sum ≤ 8) (hdg : decode cc pc = .ok (.invokestatic index, 3))
    (kk : zs_Z p l e R s m args below meth c D cl N ad wf nL ov out out1.1 (pc + 3) lv (.int out1.2 :: rest)) : zs_Z p l e R s m args below meth c D cl N ad wf nL ov out σ pc lv (st0) := by
  intro H locs ls hP hS hl
  refine zs_back hS hl (va_runS C.1 (hM H.size) cw ⟨zs_blind, fun U hU hW => ⟨rfl, by rw [hU], by rw [hU]; exact hP, va_K.moved hW.alike C.2.1⟩⟩ rfl hn hl.1 hst (lv_room hW) hdg ⟨Nat.zero_le _, Nat.zero_le _⟩) kk
theorem zs_callVv (C : zs_C p s m args meth c cc nL Ts own D cl tys N ad) {y : MethodName} {ws : List Cond} {rm : Room} {q0 ci n index maxL : Nat} {As : List Value} {out1 : zs_O} {bytes : ByteArray} {ret : Option FieldType} {fs : List Value} {q1 : vw_C} (hM : zs_M l D cl tys N ad wf y ws rm (.ref (ad q0) :: As) zs_vv σ out1) (cw : CallW R s args own q1.1 index y bytes maxL ret ws rm 0 0 n) (hq : q0 < N) (he : wf σ q0 = .inr (ci, fs)) (hc : cl[ci]? = some q1) (hn : As.length = n) {st0 : List Value} (hst : st0 = As.reverse ++ .ref (ad q0) :: rest) (hW : (rest.map fun v => v.category).sum ≤ 8) (hdg : decode cc pc = .ok (.invokevirtual index, 3))
    (kk : zs_Z p l e R s m args below meth c D cl N ad wf nL ov out out1.1 (pc + 3) lv (rest)) : zs_Z p l e R s m args below meth c D cl N ad wf nL ov out σ pc lv (st0) := by
  intro H locs ls hP hS hl
  refine zs_back hS hl (va_runV C.1 (hM H.size) cw ⟨zs_blind, va_recv C.2.1 hP hc (by rw [zs_wl_get hq, he]), fun U hU hW => ⟨rfl, by rw [hU], by rw [hU]; exact hP, va_K.moved hW.alike C.2.1⟩⟩ rfl hn hl.1 hst (lv_room hW) hdg ⟨Nat.zero_le _, Nat.zero_le _⟩) kk
theorem zs_callSv (C : zs_C p s m args meth c cc nL Ts own D cl tys N ad) {y : MethodName} {ws : List Cond} {rm : Room} {n index maxL : Nat} {As : List Value} {out1 : zs_O} {bytes : ByteArray} {ret : Option FieldType} (hM : zs_M l D cl tys N ad wf y ws rm As zs_vv σ out1) (cw : CallB R s args own index y bytes maxL ret ws rm 0 0 n ∧ (Cond.static y).before args s = true) (hn : As.length = n) {st0 : List Value} (hst : st0 = As.reverse ++ rest) (hW : (rest.map fun v => v.category).sum ≤ 8) (hdg : decode cc pc = .ok (.invokestatic index, 3))
    (kk : zs_Z p l e R s m args below meth c D cl N ad wf nL ov out out1.1 (pc + 3) lv (rest)) : zs_Z p l e R s m args below meth c D cl N ad wf nL ov out σ pc lv (st0) := by
  intro H locs ls hP hS hl
  refine zs_back hS hl (va_runS C.1 (hM H.size) cw ⟨zs_blind, fun U hU hW => ⟨rfl, by rw [hU], by rw [hU]; exact hP, va_K.moved hW.alike C.2.1⟩⟩ rfl hn hl.1 hst (lv_room hW) hdg ⟨Nat.zero_le _, Nat.zero_le _⟩) kk
end ZSR
/-- a contract from a walk of the body -/
theorem zs_ofZ {l : Launch} {D : va_G} {cl : List vw_C} {tys : List (ClassId × FieldType)} {N : Nat} {ad : Nat → Nat} {wf : zs_T → Nat → va_E} {y : MethodName} {ws ws' : List Cond} {rm : Room} {av : List Value} {ov : Int32 → Option Value} {σ : zs_T} {out : zs_O} {cc : ByteArray} {nL : Nat} {ret : Option FieldType} {lv0 : List (Nat × Value)} (hy : plainName y.cls = true) (hw : ws = Cond.code y cc nL ret :: ws') (hJ : zs_J N ad) (hav : (lg_sl av).length ≤ nL) (hlv : lv_args 0 av = lv0)
    (body : ∀ (p : Program) (e : Env) (s : State) (m : MethodId) (args : Array Value) (below : List Frame) (meth : Method) (c : Code), zs_C p s m args meth c cc nL ws y.cls D cl tys N ad → meth.sig.returnType = ret → zs_Z p l e rm s m args below meth c D cl N ad wf nL ov out σ 0 lv0 []) : zs_M l D cl tys N ad wf y ws rm av ov σ out := by
  intro sz
  refine Met.ofW (cc := cc) (maxL := nL) (ret := ret) hy hw ?_
  intro p e s m args below meth c s₁ B hml hv
  obtain ⟨rfl, hsz, hP, hK⟩ := hv
  subst hsz
  subst hlv
  have hl := lv_entry av (n := nL) hav
  rw [lg_entry_eq]
  exact body p e s m av.toArray below meth c ⟨⟨B.exec, B.bytes, hml, findClass_of_methodNamed B.named, atoms_spec (ws := ws) B.pre⟩, hK, hJ, B.notSynchronized⟩ B.returns s.heap [] _ hP va_S.rf hl
