section
-- ===== PART A: goes FIRST, ahead of the names: the tables' words, and 'selects' of the private methods out of them =====
/-- a private method of a class that the tables say can be made, by its rows of tables_1 -/
def lw_okq (q : MethodName × Nat) : Prop := (q.1.cls ≠ "java/lang/invoke/MethodHandle" ∧ q.1.cls ≠ "java/lang/invoke/VarHandle") ∧ Cond.instantiable q.1.cls q.2 ∈ tables_1 ∧ Cond.privateMethod q.1 ∈ tables_1 ∧ Cond.instanceMethod q.1 ∈ tables_1
theorem lw_p0 : lw_okq (⟨"SplitStore", "advance", "(LSplitStore$Worker;)V"⟩, 6) := ⟨⟨by decide +kernel, by decide +kernel⟩, List.mem_of_getElem? (i := 11) (by decide +kernel), List.mem_of_getElem? (i := 207) (by decide +kernel), List.mem_of_getElem? (i := 208) (by decide +kernel)⟩
theorem lw_p1 : lw_okq (⟨"SplitStore", "enter", "(LSplitStore$Worker;)V"⟩, 6) := ⟨⟨by decide +kernel, by decide +kernel⟩, List.mem_of_getElem? (i := 11) (by decide +kernel), List.mem_of_getElem? (i := 211) (by decide +kernel), List.mem_of_getElem? (i := 212) (by decide +kernel)⟩
theorem lw_p2 : lw_okq (⟨"SplitStore", "seekBucket", "(LSplitStore$Worker;)V"⟩, 6) := ⟨⟨by decide +kernel, by decide +kernel⟩, List.mem_of_getElem? (i := 11) (by decide +kernel), List.mem_of_getElem? (i := 222) (by decide +kernel), List.mem_of_getElem? (i := 223) (by decide +kernel)⟩
theorem lw_p3 : lw_okq (⟨"SplitStore", "nodeOfBucket", "(I)I"⟩, 6) := ⟨⟨by decide +kernel, by decide +kernel⟩, List.mem_of_getElem? (i := 11) (by decide +kernel), List.mem_of_getElem? (i := 226) (by decide +kernel), List.mem_of_getElem? (i := 227) (by decide +kernel)⟩
theorem lw_p4 : lw_okq (⟨"SplitStore", "loadStart", "(LSplitStore$Worker;)V"⟩, 6) := ⟨⟨by decide +kernel, by decide +kernel⟩, List.mem_of_getElem? (i := 11) (by decide +kernel), List.mem_of_getElem? (i := 240) (by decide +kernel), List.mem_of_getElem? (i := 241) (by decide +kernel)⟩
theorem lw_p5 : lw_okq (⟨"SplitStore", "mayLoad", "(LSplitStore$Worker;)Z"⟩, 6) := ⟨⟨by decide +kernel, by decide +kernel⟩, List.mem_of_getElem? (i := 11) (by decide +kernel), List.mem_of_getElem? (i := 244) (by decide +kernel), List.mem_of_getElem? (i := 245) (by decide +kernel)⟩
theorem lw_p6 : lw_okq (⟨"SplitStore", "nextOf", "(I)I"⟩, 6) := ⟨⟨by decide +kernel, by decide +kernel⟩, List.mem_of_getElem? (i := 11) (by decide +kernel), List.mem_of_getElem? (i := 248) (by decide +kernel), List.mem_of_getElem? (i := 249) (by decide +kernel)⟩
theorem lw_p7 : lw_okq (⟨"SplitStore", "loadCur", "(LSplitStore$Worker;)V"⟩, 6) := ⟨⟨by decide +kernel, by decide +kernel⟩, List.mem_of_getElem? (i := 11) (by decide +kernel), List.mem_of_getElem? (i := 255) (by decide +kernel), List.mem_of_getElem? (i := 256) (by decide +kernel)⟩
theorem lw_p8 : lw_okq (⟨"SplitStore", "searchOver", "(LSplitStore$Worker;Z)V"⟩, 6) := ⟨⟨by decide +kernel, by decide +kernel⟩, List.mem_of_getElem? (i := 11) (by decide +kernel), List.mem_of_getElem? (i := 259) (by decide +kernel), List.mem_of_getElem? (i := 260) (by decide +kernel)⟩
theorem lw_p9 : lw_okq (⟨"SplitStore", "valueOf", "(I)I"⟩, 6) := ⟨⟨by decide +kernel, by decide +kernel⟩, List.mem_of_getElem? (i := 11) (by decide +kernel), List.mem_of_getElem? (i := 267) (by decide +kernel), List.mem_of_getElem? (i := 268) (by decide +kernel)⟩
theorem lw_p10 : lw_okq (⟨"SplitStore", "end", "(LSplitStore$Worker;I)V"⟩, 6) := ⟨⟨by decide +kernel, by decide +kernel⟩, List.mem_of_getElem? (i := 11) (by decide +kernel), List.mem_of_getElem? (i := 271) (by decide +kernel), List.mem_of_getElem? (i := 272) (by decide +kernel)⟩
theorem lw_p11 : lw_okq (⟨"SplitStore", "freeOwn", "(LSplitStore$Worker;)V"⟩, 6) := ⟨⟨by decide +kernel, by decide +kernel⟩, List.mem_of_getElem? (i := 11) (by decide +kernel), List.mem_of_getElem? (i := 275) (by decide +kernel), List.mem_of_getElem? (i := 276) (by decide +kernel)⟩
theorem lw_p12 : lw_okq (⟨"SplitStore", "compare", "(LSplitStore$Worker;)V"⟩, 6) := ⟨⟨by decide +kernel, by decide +kernel⟩, List.mem_of_getElem? (i := 11) (by decide +kernel), List.mem_of_getElem? (i := 284) (by decide +kernel), List.mem_of_getElem? (i := 285) (by decide +kernel)⟩
theorem lw_p13 : lw_okq (⟨"SplitStore", "leadsTo", "(II)Z"⟩, 6) := ⟨⟨by decide +kernel, by decide +kernel⟩, List.mem_of_getElem? (i := 11) (by decide +kernel), List.mem_of_getElem? (i := 288) (by decide +kernel), List.mem_of_getElem? (i := 289) (by decide +kernel)⟩
theorem lw_p14 : lw_okq (⟨"SplitStore", "unlinkMarked", "(LSplitStore$Worker;)V"⟩, 6) := ⟨⟨by decide +kernel, by decide +kernel⟩, List.mem_of_getElem? (i := 11) (by decide +kernel), List.mem_of_getElem? (i := 306) (by decide +kernel), List.mem_of_getElem? (i := 307) (by decide +kernel)⟩
theorem lw_p15 : lw_okq (⟨"SplitStore", "change", "(IIIZ)Z"⟩, 6) := ⟨⟨by decide +kernel, by decide +kernel⟩, List.mem_of_getElem? (i := 11) (by decide +kernel), List.mem_of_getElem? (i := 310) (by decide +kernel), List.mem_of_getElem? (i := 311) (by decide +kernel)⟩
def lw_privs_1 : List (MethodName × Nat) := [(⟨"SplitStore", "advance", "(LSplitStore$Worker;)V"⟩, 6), (⟨"SplitStore", "enter", "(LSplitStore$Worker;)V"⟩, 6), (⟨"SplitStore", "seekBucket", "(LSplitStore$Worker;)V"⟩, 6), (⟨"SplitStore", "nodeOfBucket", "(I)I"⟩, 6), (⟨"SplitStore", "loadStart", "(LSplitStore$Worker;)V"⟩, 6), (⟨"SplitStore", "mayLoad", "(LSplitStore$Worker;)Z"⟩, 6), (⟨"SplitStore", "nextOf", "(I)I"⟩, 6), (⟨"SplitStore", "loadCur", "(LSplitStore$Worker;)V"⟩, 6), (⟨"SplitStore", "searchOver", "(LSplitStore$Worker;Z)V"⟩, 6), (⟨"SplitStore", "valueOf", "(I)I"⟩, 6), (⟨"SplitStore", "end", "(LSplitStore$Worker;I)V"⟩, 6), (⟨"SplitStore", "freeOwn", "(LSplitStore$Worker;)V"⟩, 6), (⟨"SplitStore", "compare", "(LSplitStore$Worker;)V"⟩, 6), (⟨"SplitStore", "leadsTo", "(II)Z"⟩, 6), (⟨"SplitStore", "unlinkMarked", "(LSplitStore$Worker;)V"⟩, 6), (⟨"SplitStore", "change", "(IIIZ)Z"⟩, 6)]
theorem lw_r1 : ∀ q ∈ lw_privs_1, lw_okq q := List.forall_mem_cons.mpr ⟨lw_p0, List.forall_mem_cons.mpr ⟨lw_p1, List.forall_mem_cons.mpr ⟨lw_p2, List.forall_mem_cons.mpr ⟨lw_p3, List.forall_mem_cons.mpr ⟨lw_p4, List.forall_mem_cons.mpr ⟨lw_p5, List.forall_mem_cons.mpr ⟨lw_p6, List.forall_mem_cons.mpr ⟨lw_p7, List.forall_mem_cons.mpr ⟨lw_p8, List.forall_mem_cons.mpr ⟨lw_p9, List.forall_mem_cons.mpr ⟨lw_p10, List.forall_mem_cons.mpr ⟨lw_p11, List.forall_mem_cons.mpr ⟨lw_p12, List.forall_mem_cons.mpr ⟨lw_p13, List.forall_mem_cons.mpr ⟨lw_p14, List.forall_mem_cons.mpr ⟨lw_p15, fun _ h => absurd h List.not_mem_nil⟩⟩⟩⟩⟩⟩⟩⟩⟩⟩⟩⟩⟩⟩⟩⟩
theorem lw_p16 : lw_okq (⟨"SplitStore", "retire", "(LSplitStore$Worker;I)V"⟩, 6) := ⟨⟨by decide +kernel, by decide +kernel⟩, List.mem_of_getElem? (i := 11) (by decide +kernel), List.mem_of_getElem? (i := 315) (by decide +kernel), List.mem_of_getElem? (i := 316) (by decide +kernel)⟩
theorem lw_p17 : lw_okq (⟨"SplitStore", "prepare", "(LSplitStore$Worker;)V"⟩, 6) := ⟨⟨by decide +kernel, by decide +kernel⟩, List.mem_of_getElem? (i := 11) (by decide +kernel), List.mem_of_getElem? (i := 319) (by decide +kernel), List.mem_of_getElem? (i := 320) (by decide +kernel)⟩
theorem lw_p18 : lw_okq (⟨"SplitStore", "takeFreeNode", "(LSplitStore$Worker;)I"⟩, 6) := ⟨⟨by decide +kernel, by decide +kernel⟩, List.mem_of_getElem? (i := 11) (by decide +kernel), List.mem_of_getElem? (i := 323) (by decide +kernel), List.mem_of_getElem? (i := 324) (by decide +kernel)⟩
theorem lw_p19 : lw_okq (⟨"SplitStore", "link", "(LSplitStore$Worker;)V"⟩, 6) := ⟨⟨by decide +kernel, by decide +kernel⟩, List.mem_of_getElem? (i := 11) (by decide +kernel), List.mem_of_getElem? (i := 327) (by decide +kernel), List.mem_of_getElem? (i := 328) (by decide +kernel)⟩
theorem lw_p20 : lw_okq (⟨"SplitStore", "setBucket", "(LSplitStore$Worker;)V"⟩, 6) := ⟨⟨by decide +kernel, by decide +kernel⟩, List.mem_of_getElem? (i := 11) (by decide +kernel), List.mem_of_getElem? (i := 331) (by decide +kernel), List.mem_of_getElem? (i := 332) (by decide +kernel)⟩
theorem lw_p21 : lw_okq (⟨"SplitStore", "mark", "(LSplitStore$Worker;)V"⟩, 6) := ⟨⟨by decide +kernel, by decide +kernel⟩, List.mem_of_getElem? (i := 11) (by decide +kernel), List.mem_of_getElem? (i := 340) (by decide +kernel), List.mem_of_getElem? (i := 341) (by decide +kernel)⟩
theorem lw_p22 : lw_okq (⟨"SplitStore", "unlinkRemoved", "(LSplitStore$Worker;)V"⟩, 6) := ⟨⟨by decide +kernel, by decide +kernel⟩, List.mem_of_getElem? (i := 11) (by decide +kernel), List.mem_of_getElem? (i := 344) (by decide +kernel), List.mem_of_getElem? (i := 345) (by decide +kernel)⟩
theorem lw_p23 : lw_okq (⟨"SplitStore", "giveBack", "(LSplitStore$Worker;)V"⟩, 6) := ⟨⟨by decide +kernel, by decide +kernel⟩, List.mem_of_getElem? (i := 11) (by decide +kernel), List.mem_of_getElem? (i := 348) (by decide +kernel), List.mem_of_getElem? (i := 349) (by decide +kernel)⟩
theorem lw_p24 : lw_okq (⟨"SplitStore", "canBeReached", "(LSplitStore$Node;)Z"⟩, 6) := ⟨⟨by decide +kernel, by decide +kernel⟩, List.mem_of_getElem? (i := 11) (by decide +kernel), List.mem_of_getElem? (i := 353) (by decide +kernel), List.mem_of_getElem? (i := 354) (by decide +kernel)⟩
theorem lw_p25 : lw_okq (⟨"SplitStore", "grow", "(LSplitStore$Worker;)V"⟩, 6) := ⟨⟨by decide +kernel, by decide +kernel⟩, List.mem_of_getElem? (i := 11) (by decide +kernel), List.mem_of_getElem? (i := 361) (by decide +kernel), List.mem_of_getElem? (i := 362) (by decide +kernel)⟩
theorem lw_p26 : lw_okq (⟨"SplitStore", "countNodes", "(I)I"⟩, 6) := ⟨⟨by decide +kernel, by decide +kernel⟩, List.mem_of_getElem? (i := 11) (by decide +kernel), List.mem_of_getElem? (i := 377) (by decide +kernel), List.mem_of_getElem? (i := 378) (by decide +kernel)⟩
theorem lw_p27 : lw_okq (⟨"java/lang/Throwable", "fillInStackTrace", "(I)Ljava/lang/Throwable;"⟩, 6) := ⟨⟨by decide +kernel, by decide +kernel⟩, List.mem_of_getElem? (i := 425) (by decide +kernel), List.mem_of_getElem? (i := 423) (by decide +kernel), List.mem_of_getElem? (i := 424) (by decide +kernel)⟩
theorem lw_p28 : lw_okq (⟨"SplitStoreModel", "oneStep", "(I)V"⟩, 34) := ⟨⟨by decide +kernel, by decide +kernel⟩, List.mem_of_getElem? (i := 472) (by decide +kernel), List.mem_of_getElem? (i := 598) (by decide +kernel), List.mem_of_getElem? (i := 599) (by decide +kernel)⟩
theorem lw_p29 : lw_okq (⟨"SplitStoreModel", "reads", "(I)Z"⟩, 34) := ⟨⟨by decide +kernel, by decide +kernel⟩, List.mem_of_getElem? (i := 472) (by decide +kernel), List.mem_of_getElem? (i := 608) (by decide +kernel), List.mem_of_getElem? (i := 609) (by decide +kernel)⟩
theorem lw_p30 : lw_okq (⟨"SplitStoreModel", "over", "(IZ)V"⟩, 34) := ⟨⟨by decide +kernel, by decide +kernel⟩, List.mem_of_getElem? (i := 472) (by decide +kernel), List.mem_of_getElem? (i := 612) (by decide +kernel), List.mem_of_getElem? (i := 613) (by decide +kernel)⟩
theorem lw_p31 : lw_okq (⟨"SplitStoreModel", "ends", "(II)V"⟩, 34) := ⟨⟨by decide +kernel, by decide +kernel⟩, List.mem_of_getElem? (i := 472) (by decide +kernel), List.mem_of_getElem? (i := 616) (by decide +kernel), List.mem_of_getElem? (i := 617) (by decide +kernel)⟩
def lw_privs_2 : List (MethodName × Nat) := [(⟨"SplitStore", "retire", "(LSplitStore$Worker;I)V"⟩, 6), (⟨"SplitStore", "prepare", "(LSplitStore$Worker;)V"⟩, 6), (⟨"SplitStore", "takeFreeNode", "(LSplitStore$Worker;)I"⟩, 6), (⟨"SplitStore", "link", "(LSplitStore$Worker;)V"⟩, 6), (⟨"SplitStore", "setBucket", "(LSplitStore$Worker;)V"⟩, 6), (⟨"SplitStore", "mark", "(LSplitStore$Worker;)V"⟩, 6), (⟨"SplitStore", "unlinkRemoved", "(LSplitStore$Worker;)V"⟩, 6), (⟨"SplitStore", "giveBack", "(LSplitStore$Worker;)V"⟩, 6), (⟨"SplitStore", "canBeReached", "(LSplitStore$Node;)Z"⟩, 6), (⟨"SplitStore", "grow", "(LSplitStore$Worker;)V"⟩, 6), (⟨"SplitStore", "countNodes", "(I)I"⟩, 6), (⟨"java/lang/Throwable", "fillInStackTrace", "(I)Ljava/lang/Throwable;"⟩, 6), (⟨"SplitStoreModel", "oneStep", "(I)V"⟩, 34), (⟨"SplitStoreModel", "reads", "(I)Z"⟩, 34), (⟨"SplitStoreModel", "over", "(IZ)V"⟩, 34), (⟨"SplitStoreModel", "ends", "(II)V"⟩, 34)]
theorem lw_r2 : ∀ q ∈ lw_privs_2, lw_okq q := List.forall_mem_cons.mpr ⟨lw_p16, List.forall_mem_cons.mpr ⟨lw_p17, List.forall_mem_cons.mpr ⟨lw_p18, List.forall_mem_cons.mpr ⟨lw_p19, List.forall_mem_cons.mpr ⟨lw_p20, List.forall_mem_cons.mpr ⟨lw_p21, List.forall_mem_cons.mpr ⟨lw_p22, List.forall_mem_cons.mpr ⟨lw_p23, List.forall_mem_cons.mpr ⟨lw_p24, List.forall_mem_cons.mpr ⟨lw_p25, List.forall_mem_cons.mpr ⟨lw_p26, List.forall_mem_cons.mpr ⟨lw_p27, List.forall_mem_cons.mpr ⟨lw_p28, List.forall_mem_cons.mpr ⟨lw_p29, List.forall_mem_cons.mpr ⟨lw_p30, List.forall_mem_cons.mpr ⟨lw_p31, fun _ h => absurd h List.not_mem_nil⟩⟩⟩⟩⟩⟩⟩⟩⟩⟩⟩⟩⟩⟩⟩⟩
theorem lw_p32 : lw_okq (⟨"SplitStoreModel", "look", "(I)V"⟩, 34) := ⟨⟨by decide +kernel, by decide +kernel⟩, List.mem_of_getElem? (i := 472) (by decide +kernel), List.mem_of_getElem? (i := 620) (by decide +kernel), List.mem_of_getElem? (i := 621) (by decide +kernel)⟩
theorem lw_p33 : lw_okq (⟨"SplitStoreModel", "wanted", "(I)I"⟩, 34) := ⟨⟨by decide +kernel, by decide +kernel⟩, List.mem_of_getElem? (i := 472) (by decide +kernel), List.mem_of_getElem? (i := 624) (by decide +kernel), List.mem_of_getElem? (i := 625) (by decide +kernel)⟩
theorem lw_p34 : lw_okq (⟨"SplitStoreModel", "change", "(IIIZ)Z"⟩, 34) := ⟨⟨by decide +kernel, by decide +kernel⟩, List.mem_of_getElem? (i := 472) (by decide +kernel), List.mem_of_getElem? (i := 631) (by decide +kernel), List.mem_of_getElem? (i := 632) (by decide +kernel)⟩
theorem lw_p35 : lw_okq (⟨"SplitStoreModel", "retire", "(II)V"⟩, 34) := ⟨⟨by decide +kernel, by decide +kernel⟩, List.mem_of_getElem? (i := 472) (by decide +kernel), List.mem_of_getElem? (i := 635) (by decide +kernel), List.mem_of_getElem? (i := 636) (by decide +kernel)⟩
theorem lw_p36 : lw_okq (⟨"SplitStoreModel", "prepare", "(I)V"⟩, 34) := ⟨⟨by decide +kernel, by decide +kernel⟩, List.mem_of_getElem? (i := 472) (by decide +kernel), List.mem_of_getElem? (i := 639) (by decide +kernel), List.mem_of_getElem? (i := 640) (by decide +kernel)⟩
theorem lw_p37 : lw_okq (⟨"SplitStoreModel", "putIn", "(I)V"⟩, 34) := ⟨⟨by decide +kernel, by decide +kernel⟩, List.mem_of_getElem? (i := 472) (by decide +kernel), List.mem_of_getElem? (i := 643) (by decide +kernel), List.mem_of_getElem? (i := 644) (by decide +kernel)⟩
theorem lw_p38 : lw_okq (⟨"SplitStoreModel", "giveBack", "(I)V"⟩, 34) := ⟨⟨by decide +kernel, by decide +kernel⟩, List.mem_of_getElem? (i := 472) (by decide +kernel), List.mem_of_getElem? (i := 647) (by decide +kernel), List.mem_of_getElem? (i := 648) (by decide +kernel)⟩
def lw_privs_3 : List (MethodName × Nat) := [(⟨"SplitStoreModel", "look", "(I)V"⟩, 34), (⟨"SplitStoreModel", "wanted", "(I)I"⟩, 34), (⟨"SplitStoreModel", "change", "(IIIZ)Z"⟩, 34), (⟨"SplitStoreModel", "retire", "(II)V"⟩, 34), (⟨"SplitStoreModel", "prepare", "(I)V"⟩, 34), (⟨"SplitStoreModel", "putIn", "(I)V"⟩, 34), (⟨"SplitStoreModel", "giveBack", "(I)V"⟩, 34)]
theorem lw_r3 : ∀ q ∈ lw_privs_3, lw_okq q := List.forall_mem_cons.mpr ⟨lw_p32, List.forall_mem_cons.mpr ⟨lw_p33, List.forall_mem_cons.mpr ⟨lw_p34, List.forall_mem_cons.mpr ⟨lw_p35, List.forall_mem_cons.mpr ⟨lw_p36, List.forall_mem_cons.mpr ⟨lw_p37, List.forall_mem_cons.mpr ⟨lw_p38, fun _ h => absurd h List.not_mem_nil⟩⟩⟩⟩⟩⟩⟩
def lw_privs : List (MethodName × Nat) := lw_privs_1 ++ (lw_privs_2 ++ (lw_privs_3))
def lw_tbl : List Cond := k2_sels lw_privs ++ tables_1
theorem lw_privs_ok : ∀ q ∈ lw_privs, lw_okq q := by
  show ∀ q ∈ lw_privs_1 ++ (lw_privs_2 ++ (lw_privs_3)), lw_okq q
  exact List.forall_mem_append.mpr ⟨lw_r1, List.forall_mem_append.mpr ⟨lw_r2, lw_r3⟩⟩
end
section
def RX0 : String := "SplitStore$Node"
def TX0 : u_T := fun k => match k with
  | 0 => ("SplitStore$Node", "state", "I", false)
  | 1 => ("SplitStore$Node", "order", "I", false)
  | 2 => ("SplitStore$Node", "next", "I", false)
  | 3 => ("SplitStore$Node", "marked", "Z", false)
  | 4 => ("SplitStore$Node", "key", "I", false)
  | 5 => ("SplitStore$Node", "value", "I", false)
  | 6 => ("SplitStore$Node", "born", "I", false)
  | _ => ("SplitStore$Node", "died", "I", false)
def tyX0 : Nat → FieldType := fun k => match k with
  | 0 => .int
  | 1 => .int
  | 2 => .int
  | 3 => .boolean
  | 4 => .int
  | 5 => .int
  | 6 => .int
  | _ => .int
abbrev wsX00 : List Cond := u_ws RX0 TX0 8
theorem nmX0 : ∀ a, a < 8 → ∀ b, b < 8 → a ≠ b → (TX0 a).2.1 ≠ (TX0 b).2.1 := by decide +kernel
theorem tyX0_ok : ∀ k, k < 8 → parseFieldDescriptor (TX0 k).2.2.1 = some (tyX0 k) := by decide +kernel
abbrev cX0_init : ByteArray := prog_2_method_1_code
def yX0_init : MethodName := ⟨RX0, "<init>", "()V"⟩
abbrev cX0_appear : ByteArray := prog_2_method_2_code
def yX0_appear : MethodName := ⟨RX0, "appear", "(IIII)V"⟩
abbrev cX0_pointTo : ByteArray := prog_2_method_3_code
def yX0_pointTo : MethodName := ⟨RX0, "pointTo", "(IZ)V"⟩
def RX1 : String := "SplitStore$Numbers"
def TX1 : u_T := fun k => match k with
  | 0 => ("SplitStore$Numbers", "items", "[I", true)
  | _ => ("SplitStore$Numbers", "length", "I", false)
def tyX1 : Nat → FieldType := fun k => match k with
  | 0 => .array .int
  | _ => .int
abbrev wsX10 : List Cond := u_ws RX1 TX1 2
theorem nmX1 : ∀ a, a < 2 → ∀ b, b < 2 → a ≠ b → (TX1 a).2.1 ≠ (TX1 b).2.1 := by decide +kernel
theorem tyX1_ok : ∀ k, k < 2 → parseFieldDescriptor (TX1 k).2.2.1 = some (tyX1 k) := by decide +kernel
abbrev cX1_init : ByteArray := prog_3_method_1_code
def yX1_init : MethodName := ⟨RX1, "<init>", "(I)V"⟩
abbrev cX1_isEmpty : ByteArray := prog_3_method_2_code
def yX1_isEmpty : MethodName := ⟨RX1, "isEmpty", "()Z"⟩
abbrev cX1_add : ByteArray := prog_3_method_3_code
def yX1_add : MethodName := ⟨RX1, "add", "(I)V"⟩
abbrev cX1_at : ByteArray := prog_3_method_4_code
def yX1_at : MethodName := ⟨RX1, "at", "(I)I"⟩
abbrev cX1_put : ByteArray := prog_3_method_5_code
def yX1_put : MethodName := ⟨RX1, "put", "(II)V"⟩
abbrev cX1_top : ByteArray := prog_3_method_6_code
def yX1_top : MethodName := ⟨RX1, "top", "()I"⟩
abbrev cX1_dropTop : ByteArray := prog_3_method_7_code
def yX1_dropTop : MethodName := ⟨RX1, "dropTop", "()V"⟩
abbrev cX1_cutTo : ByteArray := prog_3_method_8_code
def yX1_cutTo : MethodName := ⟨RX1, "cutTo", "(I)V"⟩
def RX2 : String := "SplitStore$Worker"
def TX2 : u_T := fun k => match k with
  | 0 => ("SplitStore$Worker", "place", "I", false)
  | 1 => ("SplitStore$Worker", "operation", "I", false)
  | 2 => ("SplitStore$Worker", "key", "I", false)
  | 3 => ("SplitStore$Worker", "value", "I", false)
  | 4 => ("SplitStore$Worker", "low", "I", false)
  | 5 => ("SplitStore$Worker", "high", "I", false)
  | 6 => ("SplitStore$Worker", "bucket", "I", false)
  | 7 => ("SplitStore$Worker", "stack", "LSplitStore$Numbers;", true)
  | 8 => ("SplitStore$Worker", "start", "I", false)
  | 9 => ("SplitStore$Worker", "prev", "I", false)
  | 10 => ("SplitStore$Worker", "cur", "I", false)
  | 11 => ("SplitStore$Worker", "nxt", "I", false)
  | 12 => ("SplitStore$Worker", "curMarked", "Z", false)
  | 13 => ("SplitStore$Worker", "own", "I", false)
  | 14 => ("SplitStore$Worker", "bucketNode", "I", false)
  | 15 => ("SplitStore$Worker", "cleans", "Z", false)
  | 16 => ("SplitStore$Worker", "answer", "I", false)
  | 17 => ("SplitStore$Worker", "latest", "I", false)
  | _ => ("SplitStore$Worker", "row", "LSplitStore$Numbers;", true)
def tyX2 : Nat → FieldType := fun k => match k with
  | 0 => .int
  | 1 => .int
  | 2 => .int
  | 3 => .int
  | 4 => .int
  | 5 => .int
  | 6 => .int
  | 7 => .object "SplitStore$Numbers"
  | 8 => .int
  | 9 => .int
  | 10 => .int
  | 11 => .int
  | 12 => .boolean
  | 13 => .int
  | 14 => .int
  | 15 => .boolean
  | 16 => .int
  | 17 => .int
  | _ => .object "SplitStore$Numbers"
abbrev wsX20 : List Cond := u_ws RX2 TX2 19
theorem nmX2 : ∀ a, a < 19 → ∀ b, b < 19 → a ≠ b → (TX2 a).2.1 ≠ (TX2 b).2.1 := by decide +kernel
theorem tyX2_ok : ∀ k, k < 19 → parseFieldDescriptor (TX2 k).2.2.1 = some (tyX2 k) := by decide +kernel
abbrev cX2_init : ByteArray := prog_4_method_1_code
def yX2_init : MethodName := ⟨RX2, "<init>", "()V"⟩
abbrev cX2_begin : ByteArray := prog_4_method_2_code
def yX2_begin : MethodName := ⟨RX2, "begin", "(III)V"⟩
abbrev cX2_rest : ByteArray := prog_4_method_3_code
def yX2_rest : MethodName := ⟨RX2, "rest", "(I)V"⟩
def RX3 : String := "SplitStore"
def TX3 : u_T := fun k => match k with
  | 0 => ("SplitStore", "nodes", "[LSplitStore$Node;", true)
  | 1 => ("SplitStore", "workers", "[LSplitStore$Worker;", true)
  | 2 => ("SplitStore", "bucketNodes", "[I", true)
  | 3 => ("SplitStore", "size", "I", false)
  | 4 => ("SplitStore", "count", "I", false)
  | _ => ("SplitStore", "era", "I", false)
def tyX3 : Nat → FieldType := fun k => match k with
  | 0 => .array (.object "SplitStore$Node")
  | 1 => .array (.object "SplitStore$Worker")
  | 2 => .array .int
  | 3 => .int
  | 4 => .int
  | _ => .int
abbrev wsX30 : List Cond := u_ws RX3 TX3 6
theorem nmX3 : ∀ a, a < 6 → ∀ b, b < 6 → a ≠ b → (TX3 a).2.1 ≠ (TX3 b).2.1 := by decide +kernel
theorem tyX3_ok : ∀ k, k < 6 → parseFieldDescriptor (TX3 k).2.2.1 = some (tyX3 k) := by decide +kernel
abbrev cX3_init : ByteArray := prog_1_method_1_code
def yX3_init : MethodName := ⟨RX3, "<init>", "()V"⟩
abbrev cX3_start : ByteArray := prog_1_method_2_code
def yX3_start : MethodName := ⟨RX3, "start", "(IIII)Z"⟩
abbrev cX3_step : ByteArray := prog_1_method_3_code
def yX3_step : MethodName := ⟨RX3, "step", "(I)I"⟩
abbrev cX3_run : ByteArray := prog_1_method_4_code
def yX3_run : MethodName := ⟨RX3, "run", "(II)I"⟩
abbrev cX3_result : ByteArray := prog_1_method_5_code
def yX3_result : MethodName := ⟨RX3, "result", "(I)I"⟩
abbrev cX3_process : ByteArray := prog_1_method_6_code
def yX3_process : MethodName := ⟨RX3, "process", "(II)I"⟩
abbrev cX3_node : ByteArray := prog_1_method_7_code
def yX3_node : MethodName := ⟨RX3, "node", "(II)I"⟩
abbrev cX3_bucket : ByteArray := prog_1_method_8_code
def yX3_bucket : MethodName := ⟨RX3, "bucket", "(I)I"⟩
abbrev cX3_total : ByteArray := prog_1_method_9_code
def yX3_total : MethodName := ⟨RX3, "total", "(I)I"⟩
abbrev cX3_advance : ByteArray := prog_1_method_10_code
def yX3_advance : MethodName := ⟨RX3, "advance", "(LSplitStore$Worker;)V"⟩
abbrev cX3_enter : ByteArray := prog_1_method_11_code
def yX3_enter : MethodName := ⟨RX3, "enter", "(LSplitStore$Worker;)V"⟩
abbrev cX3_seekBucket : ByteArray := prog_1_method_12_code
def yX3_seekBucket : MethodName := ⟨RX3, "seekBucket", "(LSplitStore$Worker;)V"⟩
abbrev cX3_loadStart : ByteArray := prog_1_method_13_code
def yX3_loadStart : MethodName := ⟨RX3, "loadStart", "(LSplitStore$Worker;)V"⟩
abbrev cX3_loadCur : ByteArray := prog_1_method_14_code
def yX3_loadCur : MethodName := ⟨RX3, "loadCur", "(LSplitStore$Worker;)V"⟩
abbrev cX3_compare : ByteArray := prog_1_method_15_code
def yX3_compare : MethodName := ⟨RX3, "compare", "(LSplitStore$Worker;)V"⟩
abbrev cX3_searchOver : ByteArray := prog_1_method_16_code
def yX3_searchOver : MethodName := ⟨RX3, "searchOver", "(LSplitStore$Worker;Z)V"⟩
abbrev cX3_unlinkMarked : ByteArray := prog_1_method_17_code
def yX3_unlinkMarked : MethodName := ⟨RX3, "unlinkMarked", "(LSplitStore$Worker;)V"⟩
abbrev cX3_prepare : ByteArray := prog_1_method_18_code
def yX3_prepare : MethodName := ⟨RX3, "prepare", "(LSplitStore$Worker;)V"⟩
abbrev cX3_link : ByteArray := prog_1_method_19_code
def yX3_link : MethodName := ⟨RX3, "link", "(LSplitStore$Worker;)V"⟩
abbrev cX3_setBucket : ByteArray := prog_1_method_20_code
def yX3_setBucket : MethodName := ⟨RX3, "setBucket", "(LSplitStore$Worker;)V"⟩
abbrev cX3_mark : ByteArray := prog_1_method_21_code
def yX3_mark : MethodName := ⟨RX3, "mark", "(LSplitStore$Worker;)V"⟩
abbrev cX3_unlinkRemoved : ByteArray := prog_1_method_22_code
def yX3_unlinkRemoved : MethodName := ⟨RX3, "unlinkRemoved", "(LSplitStore$Worker;)V"⟩
abbrev cX3_giveBack : ByteArray := prog_1_method_23_code
def yX3_giveBack : MethodName := ⟨RX3, "giveBack", "(LSplitStore$Worker;)V"⟩
abbrev cX3_grow : ByteArray := prog_1_method_24_code
def yX3_grow : MethodName := ⟨RX3, "grow", "(LSplitStore$Worker;)V"⟩
abbrev cX3_end : ByteArray := prog_1_method_25_code
def yX3_end : MethodName := ⟨RX3, "end", "(LSplitStore$Worker;I)V"⟩
abbrev cX3_mayLoad : ByteArray := prog_1_method_26_code
def yX3_mayLoad : MethodName := ⟨RX3, "mayLoad", "(LSplitStore$Worker;)Z"⟩
abbrev cX3_leadsTo : ByteArray := prog_1_method_27_code
def yX3_leadsTo : MethodName := ⟨RX3, "leadsTo", "(II)Z"⟩
abbrev cX3_change : ByteArray := prog_1_method_28_code
def yX3_change : MethodName := ⟨RX3, "change", "(IIIZ)Z"⟩
abbrev cX3_retire : ByteArray := prog_1_method_29_code
def yX3_retire : MethodName := ⟨RX3, "retire", "(LSplitStore$Worker;I)V"⟩
abbrev cX3_takeFreeNode : ByteArray := prog_1_method_30_code
def yX3_takeFreeNode : MethodName := ⟨RX3, "takeFreeNode", "(LSplitStore$Worker;)I"⟩
abbrev cX3_freeOwn : ByteArray := prog_1_method_31_code
def yX3_freeOwn : MethodName := ⟨RX3, "freeOwn", "(LSplitStore$Worker;)V"⟩
abbrev cX3_canBeReached : ByteArray := prog_1_method_32_code
def yX3_canBeReached : MethodName := ⟨RX3, "canBeReached", "(LSplitStore$Node;)Z"⟩
abbrev cX3_countNodes : ByteArray := prog_1_method_33_code
def yX3_countNodes : MethodName := ⟨RX3, "countNodes", "(I)I"⟩
abbrev cX3_nextOf : ByteArray := prog_1_method_34_code
def yX3_nextOf : MethodName := ⟨RX3, "nextOf", "(I)I"⟩
abbrev cX3_valueOf : ByteArray := prog_1_method_35_code
def yX3_valueOf : MethodName := ⟨RX3, "valueOf", "(I)I"⟩
abbrev cX3_nodeOfBucket : ByteArray := prog_1_method_36_code
def yX3_nodeOfBucket : MethodName := ⟨RX3, "nodeOfBucket", "(I)I"⟩
abbrev cX3_isProcess : ByteArray := prog_1_method_37_code
def yX3_isProcess : MethodName := ⟨RX3, "isProcess", "(I)Z"⟩
abbrev cX3_isNode : ByteArray := prog_1_method_38_code
def yX3_isNode : MethodName := ⟨RX3, "isNode", "(I)Z"⟩
abbrev cX3_isBucket : ByteArray := prog_1_method_39_code
def yX3_isBucket : MethodName := ⟨RX3, "isBucket", "(I)Z"⟩
abbrev cX3_wantedOrder : ByteArray := prog_1_method_40_code
def yX3_wantedOrder : MethodName := ⟨RX3, "wantedOrder", "(LSplitStore$Worker;)I"⟩
abbrev cX3_orderOfKey : ByteArray := prog_1_method_41_code
def yX3_orderOfKey : MethodName := ⟨RX3, "orderOfKey", "(I)I"⟩
abbrev cX3_orderOfBucket : ByteArray := prog_1_method_42_code
def yX3_orderOfBucket : MethodName := ⟨RX3, "orderOfBucket", "(I)I"⟩
abbrev cX3_hashOf : ByteArray := prog_1_method_43_code
def yX3_hashOf : MethodName := ⟨RX3, "hashOf", "(I)I"⟩
abbrev cX3_turned : ByteArray := prog_1_method_44_code
def yX3_turned : MethodName := ⟨RX3, "turned", "(I)I"⟩
abbrev cX3_parentOf : ByteArray := prog_1_method_45_code
def yX3_parentOf : MethodName := ⟨RX3, "parentOf", "(I)I"⟩
def RX4 : String := "SplitStoreModel"
def TX4 : u_T := fun k => match k with
  | 0 => ("SplitStoreModel", "thrownCode", "I", false)
  | 1 => ("SplitStoreModel", "sort", "[I", true)
  | 2 => ("SplitStoreModel", "order", "[I", true)
  | 3 => ("SplitStoreModel", "next", "[I", true)
  | 4 => ("SplitStoreModel", "mark", "[Z", true)
  | 5 => ("SplitStoreModel", "keyOf", "[I", true)
  | 6 => ("SplitStoreModel", "valueOf", "[I", true)
  | 7 => ("SplitStoreModel", "born", "[I", true)
  | 8 => ("SplitStoreModel", "died", "[I", true)
  | 9 => ("SplitStoreModel", "buckets", "[I", true)
  | 10 => ("SplitStoreModel", "size", "I", false)
  | 11 => ("SplitStoreModel", "count", "I", false)
  | 12 => ("SplitStoreModel", "era", "I", false)
  | 13 => ("SplitStoreModel", "place", "[I", true)
  | 14 => ("SplitStoreModel", "operation", "[I", true)
  | 15 => ("SplitStoreModel", "key", "[I", true)
  | 16 => ("SplitStoreModel", "value", "[I", true)
  | 17 => ("SplitStoreModel", "low", "[I", true)
  | 18 => ("SplitStoreModel", "high", "[I", true)
  | 19 => ("SplitStoreModel", "at", "[I", true)
  | 20 => ("SplitStoreModel", "stack", "[I", true)
  | 21 => ("SplitStoreModel", "depth", "[I", true)
  | 22 => ("SplitStoreModel", "from", "[I", true)
  | 23 => ("SplitStoreModel", "prev", "[I", true)
  | 24 => ("SplitStoreModel", "cur", "[I", true)
  | 25 => ("SplitStoreModel", "nxt", "[I", true)
  | 26 => ("SplitStoreModel", "marked", "[Z", true)
  | 27 => ("SplitStoreModel", "own", "[I", true)
  | 28 => ("SplitStoreModel", "given", "[I", true)
  | 29 => ("SplitStoreModel", "cleans", "[Z", true)
  | 30 => ("SplitStoreModel", "gone", "[I", true)
  | 31 => ("SplitStoreModel", "row", "[I", true)
  | 32 => ("SplitStoreModel", "rows", "[I", true)
  | _ => ("SplitStoreModel", "results", "[I", true)
def tyX4 : Nat → FieldType := fun k => match k with
  | 0 => .int
  | 1 => .array .int
  | 2 => .array .int
  | 3 => .array .int
  | 4 => .array .boolean
  | 5 => .array .int
  | 6 => .array .int
  | 7 => .array .int
  | 8 => .array .int
  | 9 => .array .int
  | 10 => .int
  | 11 => .int
  | 12 => .int
  | 13 => .array .int
  | 14 => .array .int
  | 15 => .array .int
  | 16 => .array .int
  | 17 => .array .int
  | 18 => .array .int
  | 19 => .array .int
  | 20 => .array .int
  | 21 => .array .int
  | 22 => .array .int
  | 23 => .array .int
  | 24 => .array .int
  | 25 => .array .int
  | 26 => .array .boolean
  | 27 => .array .int
  | 28 => .array .int
  | 29 => .array .boolean
  | 30 => .array .int
  | 31 => .array .int
  | 32 => .array .int
  | _ => .array .int
abbrev wsX40 : List Cond := u_ws RX4 TX4 34
theorem nmX4 : ∀ a, a < 34 → ∀ b, b < 34 → a ≠ b → (TX4 a).2.1 ≠ (TX4 b).2.1 := by decide +kernel
theorem tyX4_ok : ∀ k, k < 34 → parseFieldDescriptor (TX4 k).2.2.1 = some (tyX4 k) := by decide +kernel
abbrev cX4_init : ByteArray := prog_6_method_1_code
def yX4_init : MethodName := ⟨RX4, "<init>", "()V"⟩
abbrev cX4_thrown : ByteArray := prog_6_method_2_code
def yX4_thrown : MethodName := ⟨RX4, "thrown", "()I"⟩
abbrev cX4_in : ByteArray := prog_6_method_3_code
def yX4_in : MethodName := ⟨RX4, "in", "(III)Z"⟩
abbrev cX4_turned : ByteArray := prog_6_method_4_code
def yX4_turned : MethodName := ⟨RX4, "turned", "(I)I"⟩
abbrev cX4_hash : ByteArray := prog_6_method_5_code
def yX4_hash : MethodName := ⟨RX4, "hash", "(I)I"⟩
abbrev cX4_parent : ByteArray := prog_6_method_6_code
def yX4_parent : MethodName := ⟨RX4, "parent", "(I)I"⟩
abbrev cX4_wanted : ByteArray := prog_6_method_7_code
def yX4_wanted : MethodName := ⟨RX4, "wanted", "(I)I"⟩
abbrev cX4_start : ByteArray := prog_6_method_8_code
def yX4_start : MethodName := ⟨RX4, "start", "(IIII)Z"⟩
abbrev cX4_reads : ByteArray := prog_6_method_9_code
def yX4_reads : MethodName := ⟨RX4, "reads", "(I)Z"⟩
abbrev cX4_change : ByteArray := prog_6_method_10_code
def yX4_change : MethodName := ⟨RX4, "change", "(IIIZ)Z"⟩
abbrev cX4_retire : ByteArray := prog_6_method_11_code
def yX4_retire : MethodName := ⟨RX4, "retire", "(II)V"⟩
abbrev cX4_ends : ByteArray := prog_6_method_12_code
def yX4_ends : MethodName := ⟨RX4, "ends", "(II)V"⟩
abbrev cX4_over : ByteArray := prog_6_method_13_code
def yX4_over : MethodName := ⟨RX4, "over", "(IZ)V"⟩
abbrev cX4_look : ByteArray := prog_6_method_14_code
def yX4_look : MethodName := ⟨RX4, "look", "(I)V"⟩
abbrev cX4_prepare : ByteArray := prog_6_method_15_code
def yX4_prepare : MethodName := ⟨RX4, "prepare", "(I)V"⟩
abbrev cX4_putIn : ByteArray := prog_6_method_16_code
def yX4_putIn : MethodName := ⟨RX4, "putIn", "(I)V"⟩
abbrev cX4_giveBack : ByteArray := prog_6_method_17_code
def yX4_giveBack : MethodName := ⟨RX4, "giveBack", "(I)V"⟩
abbrev cX4_oneStep : ByteArray := prog_6_method_18_code
def yX4_oneStep : MethodName := ⟨RX4, "oneStep", "(I)V"⟩
abbrev cX4_step : ByteArray := prog_6_method_19_code
def yX4_step : MethodName := ⟨RX4, "step", "(I)I"⟩
abbrev cX4_run : ByteArray := prog_6_method_20_code
def yX4_run : MethodName := ⟨RX4, "run", "(II)I"⟩
abbrev cX4_result : ByteArray := prog_6_method_21_code
def yX4_result : MethodName := ⟨RX4, "result", "(I)I"⟩
abbrev cX4_process : ByteArray := prog_6_method_22_code
def yX4_process : MethodName := ⟨RX4, "process", "(II)I"⟩
abbrev cX4_node : ByteArray := prog_6_method_23_code
def yX4_node : MethodName := ⟨RX4, "node", "(II)I"⟩
abbrev cX4_bucket : ByteArray := prog_6_method_24_code
def yX4_bucket : MethodName := ⟨RX4, "bucket", "(I)I"⟩
abbrev cX4_total : ByteArray := prog_6_method_25_code
def yX4_total : MethodName := ⟨RX4, "total", "(I)I"⟩
def RJ0 : String := "java/lang/String"
def TJ0 : u_T := fun k => match k with
  | _ => ("", "", "", false)
def tyJ0 : Nat → FieldType := fun k => match k with
  | _ => .int
abbrev wsJ00 : List Cond := u_ws RJ0 TJ0 0
theorem nmJ0 : ∀ a, a < 0 → ∀ b, b < 0 → a ≠ b → (TJ0 a).2.1 ≠ (TJ0 b).2.1 := by decide +kernel
theorem tyJ0_ok : ∀ k, k < 0 → parseFieldDescriptor (TJ0 k).2.2.1 = some (tyJ0 k) := by decide +kernel
def RL : String := "SplitStoreLaw"
abbrev cL_result : ByteArray := method_3_code
def yL_result : MethodName := ⟨RL, "result", "(LSplitStore;I[J)I"⟩
abbrev cL_process : ByteArray := method_4_code
def yL_process : MethodName := ⟨RL, "process", "(LSplitStore;II[J)I"⟩
abbrev cL_node : ByteArray := method_5_code
def yL_node : MethodName := ⟨RL, "node", "(LSplitStore;II[J)I"⟩
abbrev cL_law : ByteArray := code
def yL_law : MethodName := ⟨RL, "law", "([I)Z"⟩
abbrev vwCl : List vw_C := [(RX0, TX0, 8), (RX1, TX1, 2), (RX2, TX2, 19), (RX3, TX3, 6), (RX4, TX4, 34)]
end
section
theorem dX0_init_0 : decode cX0_init 0 = .ok (.aload_n 0, 1) := by decide +kernel
theorem dX0_init_1 : decode cX0_init 1 = .ok (.invokespecial 3, 3) := by decide +kernel
theorem dX0_init_4 : decode cX0_init 4 = .ok (.aload_n 0, 1) := by decide +kernel
theorem dX0_init_5 : decode cX0_init 5 = .ok (.iconst 0, 1) := by decide +kernel
theorem dX0_init_6 : decode cX0_init 6 = .ok (.putfield 9, 3) := by decide +kernel
theorem dX0_init_9 : decode cX0_init 9 = .ok (.aload_n 0, 1) := by decide +kernel
theorem dX0_init_10 : decode cX0_init 10 = .ok (.iconst 0, 1) := by decide +kernel
theorem dX0_init_11 : decode cX0_init 11 = .ok (.putfield 15, 3) := by decide +kernel
theorem dX0_init_14 : decode cX0_init 14 = .ok (.aload_n 0, 1) := by decide +kernel
theorem dX0_init_15 : decode cX0_init 15 = .ok (.iconst (-1), 1) := by decide +kernel
theorem dX0_init_16 : decode cX0_init 16 = .ok (.putfield 18, 3) := by decide +kernel
theorem dX0_init_19 : decode cX0_init 19 = .ok (.aload_n 0, 1) := by decide +kernel
theorem dX0_init_20 : decode cX0_init 20 = .ok (.iconst 0, 1) := by decide +kernel
theorem dX0_init_21 : decode cX0_init 21 = .ok (.putfield 21, 3) := by decide +kernel
theorem dX0_init_24 : decode cX0_init 24 = .ok (.aload_n 0, 1) := by decide +kernel
theorem dX0_init_25 : decode cX0_init 25 = .ok (.iconst (-1), 1) := by decide +kernel
theorem dX0_init_26 : decode cX0_init 26 = .ok (.putfield 25, 3) := by decide +kernel
theorem dX0_init_29 : decode cX0_init 29 = .ok (.aload_n 0, 1) := by decide +kernel
theorem dX0_init_30 : decode cX0_init 30 = .ok (.iconst 0, 1) := by decide +kernel
theorem dX0_init_31 : decode cX0_init 31 = .ok (.putfield 28, 3) := by decide +kernel
theorem dX0_init_34 : decode cX0_init 34 = .ok (.aload_n 0, 1) := by decide +kernel
theorem dX0_init_35 : decode cX0_init 35 = .ok (.iconst 0, 1) := by decide +kernel
theorem dX0_init_36 : decode cX0_init 36 = .ok (.putfield 31, 3) := by decide +kernel
theorem dX0_init_39 : decode cX0_init 39 = .ok (.aload_n 0, 1) := by decide +kernel
theorem dX0_init_40 : decode cX0_init 40 = .ok (.iconst 0, 1) := by decide +kernel
theorem dX0_init_41 : decode cX0_init 41 = .ok (.putfield 34, 3) := by decide +kernel
theorem dX0_init_44 : decode cX0_init 44 = .ok (.return_, 1) := by decide +kernel
theorem dX0_appear_0 : decode cX0_appear 0 = .ok (.aload_n 0, 1) := by decide +kernel
theorem dX0_appear_1 : decode cX0_appear 1 = .ok (.iconst 1, 1) := by decide +kernel
theorem dX0_appear_2 : decode cX0_appear 2 = .ok (.putfield 9, 3) := by decide +kernel
theorem dX0_appear_5 : decode cX0_appear 5 = .ok (.aload_n 0, 1) := by decide +kernel
theorem dX0_appear_6 : decode cX0_appear 6 = .ok (.iload_n 1, 1) := by decide +kernel
theorem dX0_appear_7 : decode cX0_appear 7 = .ok (.putfield 15, 3) := by decide +kernel
theorem dX0_appear_10 : decode cX0_appear 10 = .ok (.aload_n 0, 1) := by decide +kernel
theorem dX0_appear_11 : decode cX0_appear 11 = .ok (.iload_n 2, 1) := by decide +kernel
theorem dX0_appear_12 : decode cX0_appear 12 = .ok (.putfield 25, 3) := by decide +kernel
theorem dX0_appear_15 : decode cX0_appear 15 = .ok (.aload_n 0, 1) := by decide +kernel
theorem dX0_appear_16 : decode cX0_appear 16 = .ok (.iload_n 3, 1) := by decide +kernel
theorem dX0_appear_17 : decode cX0_appear 17 = .ok (.putfield 28, 3) := by decide +kernel
theorem dX0_appear_20 : decode cX0_appear 20 = .ok (.aload_n 0, 1) := by decide +kernel
theorem dX0_appear_21 : decode cX0_appear 21 = .ok (.iload 4, 2) := by decide +kernel
theorem dX0_appear_23 : decode cX0_appear 23 = .ok (.putfield 31, 3) := by decide +kernel
theorem dX0_appear_26 : decode cX0_appear 26 = .ok (.aload_n 0, 1) := by decide +kernel
theorem dX0_appear_27 : decode cX0_appear 27 = .ok (.iconst 0, 1) := by decide +kernel
theorem dX0_appear_28 : decode cX0_appear 28 = .ok (.putfield 34, 3) := by decide +kernel
theorem dX0_appear_31 : decode cX0_appear 31 = .ok (.aload_n 0, 1) := by decide +kernel
theorem dX0_appear_32 : decode cX0_appear 32 = .ok (.iconst (-1), 1) := by decide +kernel
theorem dX0_appear_33 : decode cX0_appear 33 = .ok (.iconst 0, 1) := by decide +kernel
theorem dX0_appear_34 : decode cX0_appear 34 = .ok (.invokevirtual 37, 3) := by decide +kernel
theorem dX0_appear_37 : decode cX0_appear 37 = .ok (.return_, 1) := by decide +kernel
theorem dX0_pointTo_0 : decode cX0_pointTo 0 = .ok (.aload_n 0, 1) := by decide +kernel
theorem dX0_pointTo_1 : decode cX0_pointTo 1 = .ok (.iload_n 1, 1) := by decide +kernel
theorem dX0_pointTo_2 : decode cX0_pointTo 2 = .ok (.putfield 18, 3) := by decide +kernel
theorem dX0_pointTo_5 : decode cX0_pointTo 5 = .ok (.aload_n 0, 1) := by decide +kernel
theorem dX0_pointTo_6 : decode cX0_pointTo 6 = .ok (.iload_n 2, 1) := by decide +kernel
theorem dX0_pointTo_7 : decode cX0_pointTo 7 = .ok (.putfield 21, 3) := by decide +kernel
theorem dX0_pointTo_10 : decode cX0_pointTo 10 = .ok (.return_, 1) := by decide +kernel
theorem dX1_init_0 : decode cX1_init 0 = .ok (.aload_n 0, 1) := by decide +kernel
theorem dX1_init_1 : decode cX1_init 1 = .ok (.invokespecial 3, 3) := by decide +kernel
theorem dX1_init_4 : decode cX1_init 4 = .ok (.aload_n 0, 1) := by decide +kernel
theorem dX1_init_5 : decode cX1_init 5 = .ok (.iconst 0, 1) := by decide +kernel
theorem dX1_init_6 : decode cX1_init 6 = .ok (.putfield 9, 3) := by decide +kernel
theorem dX1_init_9 : decode cX1_init 9 = .ok (.aload_n 0, 1) := by decide +kernel
theorem dX1_init_10 : decode cX1_init 10 = .ok (.iload_n 1, 1) := by decide +kernel
theorem dX1_init_11 : decode cX1_init 11 = .ok (.newarray .int, 2) := by decide +kernel
theorem dX1_init_13 : decode cX1_init 13 = .ok (.putfield 15, 3) := by decide +kernel
theorem dX1_init_16 : decode cX1_init 16 = .ok (.return_, 1) := by decide +kernel
theorem dX1_isEmpty_0 : decode cX1_isEmpty 0 = .ok (.aload_n 0, 1) := by decide +kernel
theorem dX1_isEmpty_1 : decode cX1_isEmpty 1 = .ok (.getfield 9, 3) := by decide +kernel
theorem dX1_isEmpty_4 : decode cX1_isEmpty 4 = .ok (.ifCond .ne 7, 3) := by decide +kernel
theorem dX1_isEmpty_7 : decode cX1_isEmpty 7 = .ok (.iconst 1, 1) := by decide +kernel
theorem dX1_isEmpty_8 : decode cX1_isEmpty 8 = .ok (.goto 4, 3) := by decide +kernel
theorem dX1_isEmpty_11 : decode cX1_isEmpty 11 = .ok (.iconst 0, 1) := by decide +kernel
theorem dX1_isEmpty_12 : decode cX1_isEmpty 12 = .ok (.ireturn, 1) := by decide +kernel
theorem dX1_add_0 : decode cX1_add 0 = .ok (.aload_n 0, 1) := by decide +kernel
theorem dX1_add_1 : decode cX1_add 1 = .ok (.getfield 9, 3) := by decide +kernel
theorem dX1_add_4 : decode cX1_add 4 = .ok (.aload_n 0, 1) := by decide +kernel
theorem dX1_add_5 : decode cX1_add 5 = .ok (.getfield 15, 3) := by decide +kernel
theorem dX1_add_8 : decode cX1_add 8 = .ok (.arraylength, 1) := by decide +kernel
theorem dX1_add_9 : decode cX1_add 9 = .ok (.if_icmp .ge 23, 3) := by decide +kernel
theorem dX1_add_12 : decode cX1_add 12 = .ok (.aload_n 0, 1) := by decide +kernel
theorem dX1_add_13 : decode cX1_add 13 = .ok (.getfield 15, 3) := by decide +kernel
theorem dX1_add_16 : decode cX1_add 16 = .ok (.aload_n 0, 1) := by decide +kernel
theorem dX1_add_17 : decode cX1_add 17 = .ok (.getfield 9, 3) := by decide +kernel
theorem dX1_add_20 : decode cX1_add 20 = .ok (.iload_n 1, 1) := by decide +kernel
theorem dX1_add_21 : decode cX1_add 21 = .ok (.iastore, 1) := by decide +kernel
theorem dX1_add_22 : decode cX1_add 22 = .ok (.aload_n 0, 1) := by decide +kernel
theorem dX1_add_23 : decode cX1_add 23 = .ok (.dup, 1) := by decide +kernel
theorem dX1_add_24 : decode cX1_add 24 = .ok (.getfield 9, 3) := by decide +kernel
theorem dX1_add_27 : decode cX1_add 27 = .ok (.iconst 1, 1) := by decide +kernel
theorem dX1_add_28 : decode cX1_add 28 = .ok (.iadd, 1) := by decide +kernel
theorem dX1_add_29 : decode cX1_add 29 = .ok (.putfield 9, 3) := by decide +kernel
theorem dX1_add_32 : decode cX1_add 32 = .ok (.return_, 1) := by decide +kernel
theorem dX1_at_0 : decode cX1_at 0 = .ok (.iload_n 1, 1) := by decide +kernel
theorem dX1_at_1 : decode cX1_at 1 = .ok (.ifCond .lt 20, 3) := by decide +kernel
theorem dX1_at_4 : decode cX1_at 4 = .ok (.iload_n 1, 1) := by decide +kernel
theorem dX1_at_5 : decode cX1_at 5 = .ok (.aload_n 0, 1) := by decide +kernel
theorem dX1_at_6 : decode cX1_at 6 = .ok (.getfield 9, 3) := by decide +kernel
theorem dX1_at_9 : decode cX1_at 9 = .ok (.if_icmp .ge 12, 3) := by decide +kernel
theorem dX1_at_12 : decode cX1_at 12 = .ok (.aload_n 0, 1) := by decide +kernel
theorem dX1_at_13 : decode cX1_at 13 = .ok (.getfield 15, 3) := by decide +kernel
theorem dX1_at_16 : decode cX1_at 16 = .ok (.iload_n 1, 1) := by decide +kernel
theorem dX1_at_17 : decode cX1_at 17 = .ok (.iaload, 1) := by decide +kernel
theorem dX1_at_18 : decode cX1_at 18 = .ok (.goto 4, 3) := by decide +kernel
theorem dX1_at_21 : decode cX1_at 21 = .ok (.iconst (-1), 1) := by decide +kernel
theorem dX1_at_22 : decode cX1_at 22 = .ok (.ireturn, 1) := by decide +kernel
theorem dX1_put_0 : decode cX1_put 0 = .ok (.iload_n 1, 1) := by decide +kernel
theorem dX1_put_1 : decode cX1_put 1 = .ok (.ifCond .lt 18, 3) := by decide +kernel
theorem dX1_put_4 : decode cX1_put 4 = .ok (.iload_n 1, 1) := by decide +kernel
theorem dX1_put_5 : decode cX1_put 5 = .ok (.aload_n 0, 1) := by decide +kernel
theorem dX1_put_6 : decode cX1_put 6 = .ok (.getfield 9, 3) := by decide +kernel
theorem dX1_put_9 : decode cX1_put 9 = .ok (.if_icmp .ge 10, 3) := by decide +kernel
theorem dX1_put_12 : decode cX1_put 12 = .ok (.aload_n 0, 1) := by decide +kernel
theorem dX1_put_13 : decode cX1_put 13 = .ok (.getfield 15, 3) := by decide +kernel
theorem dX1_put_16 : decode cX1_put 16 = .ok (.iload_n 1, 1) := by decide +kernel
theorem dX1_put_17 : decode cX1_put 17 = .ok (.iload_n 2, 1) := by decide +kernel
theorem dX1_put_18 : decode cX1_put 18 = .ok (.iastore, 1) := by decide +kernel
theorem dX1_put_19 : decode cX1_put 19 = .ok (.return_, 1) := by decide +kernel
theorem dX1_top_0 : decode cX1_top 0 = .ok (.aload_n 0, 1) := by decide +kernel
theorem dX1_top_1 : decode cX1_top 1 = .ok (.aload_n 0, 1) := by decide +kernel
theorem dX1_top_2 : decode cX1_top 2 = .ok (.getfield 9, 3) := by decide +kernel
theorem dX1_top_5 : decode cX1_top 5 = .ok (.iconst 1, 1) := by decide +kernel
theorem dX1_top_6 : decode cX1_top 6 = .ok (.isub, 1) := by decide +kernel
theorem dX1_top_7 : decode cX1_top 7 = .ok (.invokevirtual 19, 3) := by decide +kernel
theorem dX1_top_10 : decode cX1_top 10 = .ok (.ireturn, 1) := by decide +kernel
theorem dX1_dropTop_0 : decode cX1_dropTop 0 = .ok (.aload_n 0, 1) := by decide +kernel
theorem dX1_dropTop_1 : decode cX1_dropTop 1 = .ok (.aload_n 0, 1) := by decide +kernel
theorem dX1_dropTop_2 : decode cX1_dropTop 2 = .ok (.getfield 9, 3) := by decide +kernel
theorem dX1_dropTop_5 : decode cX1_dropTop 5 = .ok (.iconst 1, 1) := by decide +kernel
theorem dX1_dropTop_6 : decode cX1_dropTop 6 = .ok (.isub, 1) := by decide +kernel
theorem dX1_dropTop_7 : decode cX1_dropTop 7 = .ok (.invokevirtual 23, 3) := by decide +kernel
theorem dX1_dropTop_10 : decode cX1_dropTop 10 = .ok (.return_, 1) := by decide +kernel
theorem dX1_cutTo_0 : decode cX1_cutTo 0 = .ok (.iload_n 1, 1) := by decide +kernel
theorem dX1_cutTo_1 : decode cX1_cutTo 1 = .ok (.ifCond .lt 16, 3) := by decide +kernel
theorem dX1_cutTo_4 : decode cX1_cutTo 4 = .ok (.iload_n 1, 1) := by decide +kernel
theorem dX1_cutTo_5 : decode cX1_cutTo 5 = .ok (.aload_n 0, 1) := by decide +kernel
theorem dX1_cutTo_6 : decode cX1_cutTo 6 = .ok (.getfield 9, 3) := by decide +kernel
theorem dX1_cutTo_9 : decode cX1_cutTo 9 = .ok (.if_icmp .ge 8, 3) := by decide +kernel
theorem dX1_cutTo_12 : decode cX1_cutTo 12 = .ok (.aload_n 0, 1) := by decide +kernel
theorem dX1_cutTo_13 : decode cX1_cutTo 13 = .ok (.iload_n 1, 1) := by decide +kernel
theorem dX1_cutTo_14 : decode cX1_cutTo 14 = .ok (.putfield 9, 3) := by decide +kernel
theorem dX1_cutTo_17 : decode cX1_cutTo 17 = .ok (.return_, 1) := by decide +kernel
theorem dX2_init_0 : decode cX2_init 0 = .ok (.aload_n 0, 1) := by decide +kernel
theorem dX2_init_1 : decode cX2_init 1 = .ok (.invokespecial 3, 3) := by decide +kernel
theorem dX2_init_4 : decode cX2_init 4 = .ok (.aload_n 0, 1) := by decide +kernel
theorem dX2_init_5 : decode cX2_init 5 = .ok (.iconst 0, 1) := by decide +kernel
theorem dX2_init_6 : decode cX2_init 6 = .ok (.putfield 9, 3) := by decide +kernel
theorem dX2_init_9 : decode cX2_init 9 = .ok (.aload_n 0, 1) := by decide +kernel
theorem dX2_init_10 : decode cX2_init 10 = .ok (.iconst 0, 1) := by decide +kernel
theorem dX2_init_11 : decode cX2_init 11 = .ok (.putfield 15, 3) := by decide +kernel
theorem dX2_init_14 : decode cX2_init 14 = .ok (.aload_n 0, 1) := by decide +kernel
theorem dX2_init_15 : decode cX2_init 15 = .ok (.iconst 0, 1) := by decide +kernel
theorem dX2_init_16 : decode cX2_init 16 = .ok (.putfield 18, 3) := by decide +kernel
theorem dX2_init_19 : decode cX2_init 19 = .ok (.aload_n 0, 1) := by decide +kernel
theorem dX2_init_20 : decode cX2_init 20 = .ok (.iconst 0, 1) := by decide +kernel
theorem dX2_init_21 : decode cX2_init 21 = .ok (.putfield 21, 3) := by decide +kernel
theorem dX2_init_24 : decode cX2_init 24 = .ok (.aload_n 0, 1) := by decide +kernel
theorem dX2_init_25 : decode cX2_init 25 = .ok (.iconst 0, 1) := by decide +kernel
theorem dX2_init_26 : decode cX2_init 26 = .ok (.putfield 24, 3) := by decide +kernel
theorem dX2_init_29 : decode cX2_init 29 = .ok (.aload_n 0, 1) := by decide +kernel
theorem dX2_init_30 : decode cX2_init 30 = .ok (.iconst 0, 1) := by decide +kernel
theorem dX2_init_31 : decode cX2_init 31 = .ok (.putfield 27, 3) := by decide +kernel
theorem dX2_init_34 : decode cX2_init 34 = .ok (.aload_n 0, 1) := by decide +kernel
theorem dX2_init_35 : decode cX2_init 35 = .ok (.iconst 0, 1) := by decide +kernel
theorem dX2_init_36 : decode cX2_init 36 = .ok (.putfield 30, 3) := by decide +kernel
theorem dX2_init_39 : decode cX2_init 39 = .ok (.aload_n 0, 1) := by decide +kernel
theorem dX2_init_40 : decode cX2_init 40 = .ok (.new 33, 3) := by decide +kernel
theorem dX2_init_43 : decode cX2_init 43 = .ok (.dup, 1) := by decide +kernel
theorem dX2_init_44 : decode cX2_init 44 = .ok (.iconst 4, 1) := by decide +kernel
theorem dX2_init_45 : decode cX2_init 45 = .ok (.invokespecial 35, 3) := by decide +kernel
theorem dX2_init_48 : decode cX2_init 48 = .ok (.putfield 38, 3) := by decide +kernel
theorem dX2_init_51 : decode cX2_init 51 = .ok (.aload_n 0, 1) := by decide +kernel
theorem dX2_init_52 : decode cX2_init 52 = .ok (.iconst (-1), 1) := by decide +kernel
theorem dX2_init_53 : decode cX2_init 53 = .ok (.putfield 42, 3) := by decide +kernel
theorem dX2_init_56 : decode cX2_init 56 = .ok (.aload_n 0, 1) := by decide +kernel
theorem dX2_init_57 : decode cX2_init 57 = .ok (.iconst (-1), 1) := by decide +kernel
theorem dX2_init_58 : decode cX2_init 58 = .ok (.putfield 45, 3) := by decide +kernel
theorem dX2_init_61 : decode cX2_init 61 = .ok (.aload_n 0, 1) := by decide +kernel
theorem dX2_init_62 : decode cX2_init 62 = .ok (.iconst (-1), 1) := by decide +kernel
theorem dX2_init_63 : decode cX2_init 63 = .ok (.putfield 48, 3) := by decide +kernel
theorem dX2_init_66 : decode cX2_init 66 = .ok (.aload_n 0, 1) := by decide +kernel
theorem dX2_init_67 : decode cX2_init 67 = .ok (.iconst (-1), 1) := by decide +kernel
theorem dX2_init_68 : decode cX2_init 68 = .ok (.putfield 51, 3) := by decide +kernel
theorem dX2_init_71 : decode cX2_init 71 = .ok (.aload_n 0, 1) := by decide +kernel
theorem dX2_init_72 : decode cX2_init 72 = .ok (.iconst 0, 1) := by decide +kernel
theorem dX2_init_73 : decode cX2_init 73 = .ok (.putfield 54, 3) := by decide +kernel
theorem dX2_init_76 : decode cX2_init 76 = .ok (.aload_n 0, 1) := by decide +kernel
theorem dX2_init_77 : decode cX2_init 77 = .ok (.iconst (-1), 1) := by decide +kernel
theorem dX2_init_78 : decode cX2_init 78 = .ok (.putfield 58, 3) := by decide +kernel
theorem dX2_init_81 : decode cX2_init 81 = .ok (.aload_n 0, 1) := by decide +kernel
theorem dX2_init_82 : decode cX2_init 82 = .ok (.iconst (-1), 1) := by decide +kernel
theorem dX2_init_83 : decode cX2_init 83 = .ok (.putfield 61, 3) := by decide +kernel
theorem dX2_init_86 : decode cX2_init 86 = .ok (.aload_n 0, 1) := by decide +kernel
theorem dX2_init_87 : decode cX2_init 87 = .ok (.iconst 0, 1) := by decide +kernel
theorem dX2_init_88 : decode cX2_init 88 = .ok (.putfield 64, 3) := by decide +kernel
theorem dX2_init_91 : decode cX2_init 91 = .ok (.aload_n 0, 1) := by decide +kernel
theorem dX2_init_92 : decode cX2_init 92 = .ok (.iconst (-1), 1) := by decide +kernel
theorem dX2_init_93 : decode cX2_init 93 = .ok (.putfield 67, 3) := by decide +kernel
theorem dX2_init_96 : decode cX2_init 96 = .ok (.aload_n 0, 1) := by decide +kernel
theorem dX2_init_97 : decode cX2_init 97 = .ok (.iconst (-1), 1) := by decide +kernel
theorem dX2_init_98 : decode cX2_init 98 = .ok (.putfield 70, 3) := by decide +kernel
theorem dX2_init_101 : decode cX2_init 101 = .ok (.aload_n 0, 1) := by decide +kernel
theorem dX2_init_102 : decode cX2_init 102 = .ok (.new 33, 3) := by decide +kernel
theorem dX2_init_105 : decode cX2_init 105 = .ok (.dup, 1) := by decide +kernel
theorem dX2_init_106 : decode cX2_init 106 = .ok (.bipush 64, 2) := by decide +kernel
theorem dX2_init_108 : decode cX2_init 108 = .ok (.invokespecial 35, 3) := by decide +kernel
theorem dX2_init_111 : decode cX2_init 111 = .ok (.putfield 73, 3) := by decide +kernel
theorem dX2_init_114 : decode cX2_init 114 = .ok (.return_, 1) := by decide +kernel
theorem dX2_begin_0 : decode cX2_begin 0 = .ok (.aload_n 0, 1) := by decide +kernel
theorem dX2_begin_1 : decode cX2_begin 1 = .ok (.iload_n 1, 1) := by decide +kernel
theorem dX2_begin_2 : decode cX2_begin 2 = .ok (.putfield 15, 3) := by decide +kernel
theorem dX2_begin_5 : decode cX2_begin 5 = .ok (.aload_n 0, 1) := by decide +kernel
theorem dX2_begin_6 : decode cX2_begin 6 = .ok (.iload_n 2, 1) := by decide +kernel
theorem dX2_begin_7 : decode cX2_begin 7 = .ok (.putfield 18, 3) := by decide +kernel
theorem dX2_begin_10 : decode cX2_begin 10 = .ok (.aload_n 0, 1) := by decide +kernel
theorem dX2_begin_11 : decode cX2_begin 11 = .ok (.iload_n 3, 1) := by decide +kernel
theorem dX2_begin_12 : decode cX2_begin 12 = .ok (.putfield 21, 3) := by decide +kernel
theorem dX2_begin_15 : decode cX2_begin 15 = .ok (.aload_n 0, 1) := by decide +kernel
theorem dX2_begin_16 : decode cX2_begin 16 = .ok (.iconst 0, 1) := by decide +kernel
theorem dX2_begin_17 : decode cX2_begin 17 = .ok (.putfield 64, 3) := by decide +kernel
theorem dX2_begin_20 : decode cX2_begin 20 = .ok (.aload_n 0, 1) := by decide +kernel
theorem dX2_begin_21 : decode cX2_begin 21 = .ok (.iconst 1, 1) := by decide +kernel
theorem dX2_begin_22 : decode cX2_begin 22 = .ok (.putfield 9, 3) := by decide +kernel
theorem dX2_begin_25 : decode cX2_begin 25 = .ok (.return_, 1) := by decide +kernel
theorem dX2_rest_0 : decode cX2_rest 0 = .ok (.aload_n 0, 1) := by decide +kernel
theorem dX2_rest_1 : decode cX2_rest 1 = .ok (.iload_n 1, 1) := by decide +kernel
theorem dX2_rest_2 : decode cX2_rest 2 = .ok (.putfield 70, 3) := by decide +kernel
theorem dX2_rest_5 : decode cX2_rest 5 = .ok (.aload_n 0, 1) := by decide +kernel
theorem dX2_rest_6 : decode cX2_rest 6 = .ok (.iconst 0, 1) := by decide +kernel
theorem dX2_rest_7 : decode cX2_rest 7 = .ok (.putfield 24, 3) := by decide +kernel
theorem dX2_rest_10 : decode cX2_rest 10 = .ok (.aload_n 0, 1) := by decide +kernel
theorem dX2_rest_11 : decode cX2_rest 11 = .ok (.iconst 0, 1) := by decide +kernel
theorem dX2_rest_12 : decode cX2_rest 12 = .ok (.putfield 27, 3) := by decide +kernel
theorem dX2_rest_15 : decode cX2_rest 15 = .ok (.aload_n 0, 1) := by decide +kernel
theorem dX2_rest_16 : decode cX2_rest 16 = .ok (.getfield 38, 3) := by decide +kernel
theorem dX2_rest_19 : decode cX2_rest 19 = .ok (.iconst 0, 1) := by decide +kernel
theorem dX2_rest_20 : decode cX2_rest 20 = .ok (.invokevirtual 76, 3) := by decide +kernel
theorem dX2_rest_23 : decode cX2_rest 23 = .ok (.aload_n 0, 1) := by decide +kernel
theorem dX2_rest_24 : decode cX2_rest 24 = .ok (.iconst (-1), 1) := by decide +kernel
theorem dX2_rest_25 : decode cX2_rest 25 = .ok (.putfield 45, 3) := by decide +kernel
theorem dX2_rest_28 : decode cX2_rest 28 = .ok (.aload_n 0, 1) := by decide +kernel
theorem dX2_rest_29 : decode cX2_rest 29 = .ok (.iconst (-1), 1) := by decide +kernel
theorem dX2_rest_30 : decode cX2_rest 30 = .ok (.putfield 48, 3) := by decide +kernel
theorem dX2_rest_33 : decode cX2_rest 33 = .ok (.aload_n 0, 1) := by decide +kernel
theorem dX2_rest_34 : decode cX2_rest 34 = .ok (.iconst (-1), 1) := by decide +kernel
theorem dX2_rest_35 : decode cX2_rest 35 = .ok (.putfield 51, 3) := by decide +kernel
theorem dX2_rest_38 : decode cX2_rest 38 = .ok (.aload_n 0, 1) := by decide +kernel
theorem dX2_rest_39 : decode cX2_rest 39 = .ok (.iconst 0, 1) := by decide +kernel
theorem dX2_rest_40 : decode cX2_rest 40 = .ok (.putfield 9, 3) := by decide +kernel
theorem dX2_rest_43 : decode cX2_rest 43 = .ok (.return_, 1) := by decide +kernel
theorem dX3_init_0 : decode cX3_init 0 = .ok (.aload_n 0, 1) := by decide +kernel
theorem dX3_init_1 : decode cX3_init 1 = .ok (.invokespecial 1, 3) := by decide +kernel
theorem dX3_init_4 : decode cX3_init 4 = .ok (.aload_n 0, 1) := by decide +kernel
theorem dX3_init_5 : decode cX3_init 5 = .ok (.bipush 64, 2) := by decide +kernel
theorem dX3_init_7 : decode cX3_init 7 = .ok (.anewarray 9, 3) := by decide +kernel
theorem dX3_init_10 : decode cX3_init 10 = .ok (.putfield 11, 3) := by decide +kernel
theorem dX3_init_13 : decode cX3_init 13 = .ok (.aload_n 0, 1) := by decide +kernel
theorem dX3_init_14 : decode cX3_init 14 = .ok (.iconst 4, 1) := by decide +kernel
theorem dX3_init_15 : decode cX3_init 15 = .ok (.anewarray 15, 3) := by decide +kernel
theorem dX3_init_18 : decode cX3_init 18 = .ok (.putfield 17, 3) := by decide +kernel
theorem dX3_init_21 : decode cX3_init 21 = .ok (.aload_n 0, 1) := by decide +kernel
theorem dX3_init_22 : decode cX3_init 22 = .ok (.bipush 16, 2) := by decide +kernel
theorem dX3_init_24 : decode cX3_init 24 = .ok (.newarray .int, 2) := by decide +kernel
theorem dX3_init_26 : decode cX3_init 26 = .ok (.putfield 21, 3) := by decide +kernel
theorem dX3_init_29 : decode cX3_init 29 = .ok (.aload_n 0, 1) := by decide +kernel
theorem dX3_init_30 : decode cX3_init 30 = .ok (.iconst 1, 1) := by decide +kernel
theorem dX3_init_31 : decode cX3_init 31 = .ok (.putfield 25, 3) := by decide +kernel
theorem dX3_init_34 : decode cX3_init 34 = .ok (.aload_n 0, 1) := by decide +kernel
theorem dX3_init_35 : decode cX3_init 35 = .ok (.iconst 0, 1) := by decide +kernel
theorem dX3_init_36 : decode cX3_init 36 = .ok (.putfield 29, 3) := by decide +kernel
theorem dX3_init_39 : decode cX3_init 39 = .ok (.aload_n 0, 1) := by decide +kernel
theorem dX3_init_40 : decode cX3_init 40 = .ok (.iconst 1, 1) := by decide +kernel
theorem dX3_init_41 : decode cX3_init 41 = .ok (.putfield 32, 3) := by decide +kernel
theorem dX3_init_44 : decode cX3_init 44 = .ok (.iconst 0, 1) := by decide +kernel
theorem dX3_init_45 : decode cX3_init 45 = .ok (.istore_n 1, 1) := by decide +kernel
theorem dX3_init_46 : decode cX3_init 46 = .ok (.iload_n 1, 1) := by decide +kernel
theorem dX3_init_47 : decode cX3_init 47 = .ok (.bipush 64, 2) := by decide +kernel
theorem dX3_init_49 : decode cX3_init 49 = .ok (.if_icmp .ge 22, 3) := by decide +kernel
theorem dX3_init_52 : decode cX3_init 52 = .ok (.aload_n 0, 1) := by decide +kernel
theorem dX3_init_53 : decode cX3_init 53 = .ok (.getfield 11, 3) := by decide +kernel
theorem dX3_init_56 : decode cX3_init 56 = .ok (.iload_n 1, 1) := by decide +kernel
theorem dX3_init_57 : decode cX3_init 57 = .ok (.new 9, 3) := by decide +kernel
theorem dX3_init_60 : decode cX3_init 60 = .ok (.dup, 1) := by decide +kernel
theorem dX3_init_61 : decode cX3_init 61 = .ok (.invokespecial 35, 3) := by decide +kernel
theorem dX3_init_64 : decode cX3_init 64 = .ok (.aastore, 1) := by decide +kernel
theorem dX3_init_65 : decode cX3_init 65 = .ok (.iinc 1 1, 3) := by decide +kernel
theorem dX3_init_68 : decode cX3_init 68 = .ok (.goto (-22), 3) := by decide +kernel
theorem dX3_init_71 : decode cX3_init 71 = .ok (.iconst 0, 1) := by decide +kernel
theorem dX3_init_72 : decode cX3_init 72 = .ok (.istore_n 1, 1) := by decide +kernel
theorem dX3_init_73 : decode cX3_init 73 = .ok (.iload_n 1, 1) := by decide +kernel
theorem dX3_init_74 : decode cX3_init 74 = .ok (.iconst 4, 1) := by decide +kernel
theorem dX3_init_75 : decode cX3_init 75 = .ok (.if_icmp .ge 22, 3) := by decide +kernel
theorem dX3_init_78 : decode cX3_init 78 = .ok (.aload_n 0, 1) := by decide +kernel
theorem dX3_init_79 : decode cX3_init 79 = .ok (.getfield 17, 3) := by decide +kernel
theorem dX3_init_82 : decode cX3_init 82 = .ok (.iload_n 1, 1) := by decide +kernel
theorem dX3_init_83 : decode cX3_init 83 = .ok (.new 15, 3) := by decide +kernel
theorem dX3_init_86 : decode cX3_init 86 = .ok (.dup, 1) := by decide +kernel
theorem dX3_init_87 : decode cX3_init 87 = .ok (.invokespecial 36, 3) := by decide +kernel
theorem dX3_init_90 : decode cX3_init 90 = .ok (.aastore, 1) := by decide +kernel
theorem dX3_init_91 : decode cX3_init 91 = .ok (.iinc 1 1, 3) := by decide +kernel
theorem dX3_init_94 : decode cX3_init 94 = .ok (.goto (-21), 3) := by decide +kernel
theorem dX3_init_97 : decode cX3_init 97 = .ok (.iconst 0, 1) := by decide +kernel
theorem dX3_init_98 : decode cX3_init 98 = .ok (.istore_n 1, 1) := by decide +kernel
theorem dX3_init_99 : decode cX3_init 99 = .ok (.iload_n 1, 1) := by decide +kernel
theorem dX3_init_100 : decode cX3_init 100 = .ok (.bipush 16, 2) := by decide +kernel
theorem dX3_init_102 : decode cX3_init 102 = .ok (.if_icmp .ge 16, 3) := by decide +kernel
theorem dX3_init_105 : decode cX3_init 105 = .ok (.aload_n 0, 1) := by decide +kernel
theorem dX3_init_106 : decode cX3_init 106 = .ok (.getfield 21, 3) := by decide +kernel
theorem dX3_init_109 : decode cX3_init 109 = .ok (.iload_n 1, 1) := by decide +kernel
theorem dX3_init_110 : decode cX3_init 110 = .ok (.iconst (-1), 1) := by decide +kernel
theorem dX3_init_111 : decode cX3_init 111 = .ok (.iastore, 1) := by decide +kernel
theorem dX3_init_112 : decode cX3_init 112 = .ok (.iinc 1 1, 3) := by decide +kernel
theorem dX3_init_115 : decode cX3_init 115 = .ok (.goto (-16), 3) := by decide +kernel
theorem dX3_init_118 : decode cX3_init 118 = .ok (.aload_n 0, 1) := by decide +kernel
theorem dX3_init_119 : decode cX3_init 119 = .ok (.getfield 11, 3) := by decide +kernel
theorem dX3_init_122 : decode cX3_init 122 = .ok (.iconst 0, 1) := by decide +kernel
theorem dX3_init_123 : decode cX3_init 123 = .ok (.aaload, 1) := by decide +kernel
theorem dX3_init_124 : decode cX3_init 124 = .ok (.iconst 0, 1) := by decide +kernel
theorem dX3_init_125 : decode cX3_init 125 = .ok (.invokestatic 37, 3) := by decide +kernel
theorem dX3_init_128 : decode cX3_init 128 = .ok (.iconst (-1), 1) := by decide +kernel
theorem dX3_init_129 : decode cX3_init 129 = .ok (.iconst 0, 1) := by decide +kernel
theorem dX3_init_130 : decode cX3_init 130 = .ok (.aload_n 0, 1) := by decide +kernel
theorem dX3_init_131 : decode cX3_init 131 = .ok (.getfield 32, 3) := by decide +kernel
theorem dX3_init_134 : decode cX3_init 134 = .ok (.invokevirtual 41, 3) := by decide +kernel
theorem dX3_init_137 : decode cX3_init 137 = .ok (.aload_n 0, 1) := by decide +kernel
theorem dX3_init_138 : decode cX3_init 138 = .ok (.getfield 21, 3) := by decide +kernel
theorem dX3_init_141 : decode cX3_init 141 = .ok (.iconst 0, 1) := by decide +kernel
theorem dX3_init_142 : decode cX3_init 142 = .ok (.iconst 0, 1) := by decide +kernel
theorem dX3_init_143 : decode cX3_init 143 = .ok (.iastore, 1) := by decide +kernel
theorem dX3_init_144 : decode cX3_init 144 = .ok (.return_, 1) := by decide +kernel
theorem dX3_start_0 : decode cX3_start 0 = .ok (.iload_n 1, 1) := by decide +kernel
theorem dX3_start_1 : decode cX3_start 1 = .ok (.invokestatic 45, 3) := by decide +kernel
theorem dX3_start_4 : decode cX3_start 4 = .ok (.ifCond .eq 12, 3) := by decide +kernel
theorem dX3_start_7 : decode cX3_start 7 = .ok (.iload_n 2, 1) := by decide +kernel
theorem dX3_start_8 : decode cX3_start 8 = .ok (.ifCond .lt 8, 3) := by decide +kernel
theorem dX3_start_11 : decode cX3_start 11 = .ok (.iload_n 2, 1) := by decide +kernel
theorem dX3_start_12 : decode cX3_start 12 = .ok (.iconst 2, 1) := by decide +kernel
theorem dX3_start_13 : decode cX3_start 13 = .ok (.if_icmp .le 5, 3) := by decide +kernel
theorem dX3_start_16 : decode cX3_start 16 = .ok (.iconst 0, 1) := by decide +kernel
theorem dX3_start_17 : decode cX3_start 17 = .ok (.ireturn, 1) := by decide +kernel
theorem dX3_start_18 : decode cX3_start 18 = .ok (.iload_n 3, 1) := by decide +kernel
theorem dX3_start_19 : decode cX3_start 19 = .ok (.ifCond .lt 22, 3) := by decide +kernel
theorem dX3_start_22 : decode cX3_start 22 = .ok (.iload_n 3, 1) := by decide +kernel
theorem dX3_start_23 : decode cX3_start 23 = .ok (.sipush 256, 3) := by decide +kernel
theorem dX3_start_26 : decode cX3_start 26 = .ok (.if_icmp .ge 15, 3) := by decide +kernel
theorem dX3_start_29 : decode cX3_start 29 = .ok (.iload 4, 2) := by decide +kernel
theorem dX3_start_31 : decode cX3_start 31 = .ok (.ifCond .lt 10, 3) := by decide +kernel
theorem dX3_start_34 : decode cX3_start 34 = .ok (.iload 4, 2) := by decide +kernel
theorem dX3_start_36 : decode cX3_start 36 = .ok (.ldc 49, 2) := by decide +kernel
theorem dX3_start_38 : decode cX3_start 38 = .ok (.if_icmp .le 5, 3) := by decide +kernel
theorem dX3_start_41 : decode cX3_start 41 = .ok (.iconst 0, 1) := by decide +kernel
theorem dX3_start_42 : decode cX3_start 42 = .ok (.ireturn, 1) := by decide +kernel
theorem dX3_start_43 : decode cX3_start 43 = .ok (.aload_n 0, 1) := by decide +kernel
theorem dX3_start_44 : decode cX3_start 44 = .ok (.getfield 17, 3) := by decide +kernel
theorem dX3_start_47 : decode cX3_start 47 = .ok (.iload_n 1, 1) := by decide +kernel
theorem dX3_start_48 : decode cX3_start 48 = .ok (.aaload, 1) := by decide +kernel
theorem dX3_start_49 : decode cX3_start 49 = .ok (.astore 5, 2) := by decide +kernel
theorem dX3_start_51 : decode cX3_start 51 = .ok (.aload 5, 2) := by decide +kernel
theorem dX3_start_53 : decode cX3_start 53 = .ok (.getfield 50, 3) := by decide +kernel
theorem dX3_start_56 : decode cX3_start 56 = .ok (.ifCond .eq 5, 3) := by decide +kernel
theorem dX3_start_59 : decode cX3_start 59 = .ok (.iconst 0, 1) := by decide +kernel
theorem dX3_start_60 : decode cX3_start 60 = .ok (.ireturn, 1) := by decide +kernel
theorem dX3_start_61 : decode cX3_start 61 = .ok (.aload 5, 2) := by decide +kernel
theorem dX3_start_63 : decode cX3_start 63 = .ok (.iload_n 2, 1) := by decide +kernel
theorem dX3_start_64 : decode cX3_start 64 = .ok (.iload_n 3, 1) := by decide +kernel
theorem dX3_start_65 : decode cX3_start 65 = .ok (.iload 4, 2) := by decide +kernel
theorem dX3_start_67 : decode cX3_start 67 = .ok (.invokevirtual 53, 3) := by decide +kernel
theorem dX3_start_70 : decode cX3_start 70 = .ok (.iconst 1, 1) := by decide +kernel
theorem dX3_start_71 : decode cX3_start 71 = .ok (.ireturn, 1) := by decide +kernel
theorem dX3_step_0 : decode cX3_step 0 = .ok (.iload_n 1, 1) := by decide +kernel
theorem dX3_step_1 : decode cX3_step 1 = .ok (.invokestatic 45, 3) := by decide +kernel
theorem dX3_step_4 : decode cX3_step 4 = .ok (.ifCond .ne 5, 3) := by decide +kernel
theorem dX3_step_7 : decode cX3_step 7 = .ok (.iconst (-1), 1) := by decide +kernel
theorem dX3_step_8 : decode cX3_step 8 = .ok (.ireturn, 1) := by decide +kernel
theorem dX3_step_9 : decode cX3_step 9 = .ok (.aload_n 0, 1) := by decide +kernel
theorem dX3_step_10 : decode cX3_step 10 = .ok (.getfield 17, 3) := by decide +kernel
theorem dX3_step_13 : decode cX3_step 13 = .ok (.iload_n 1, 1) := by decide +kernel
theorem dX3_step_14 : decode cX3_step 14 = .ok (.aaload, 1) := by decide +kernel
theorem dX3_step_15 : decode cX3_step 15 = .ok (.astore_n 2, 1) := by decide +kernel
theorem dX3_step_16 : decode cX3_step 16 = .ok (.aload_n 0, 1) := by decide +kernel
theorem dX3_step_17 : decode cX3_step 17 = .ok (.aload_n 2, 1) := by decide +kernel
theorem dX3_step_18 : decode cX3_step 18 = .ok (.invokevirtual 57, 3) := by decide +kernel
theorem dX3_step_21 : decode cX3_step 21 = .ok (.aload_n 2, 1) := by decide +kernel
theorem dX3_step_22 : decode cX3_step 22 = .ok (.getfield 50, 3) := by decide +kernel
theorem dX3_step_25 : decode cX3_step 25 = .ok (.ireturn, 1) := by decide +kernel
theorem dX3_run_0 : decode cX3_run 0 = .ok (.iload_n 1, 1) := by decide +kernel
theorem dX3_run_1 : decode cX3_run 1 = .ok (.invokestatic 45, 3) := by decide +kernel
theorem dX3_run_4 : decode cX3_run 4 = .ok (.ifCond .eq 14, 3) := by decide +kernel
theorem dX3_run_7 : decode cX3_run 7 = .ok (.iload_n 2, 1) := by decide +kernel
theorem dX3_run_8 : decode cX3_run 8 = .ok (.ifCond .lt 10, 3) := by decide +kernel
theorem dX3_run_11 : decode cX3_run 11 = .ok (.iload_n 2, 1) := by decide +kernel
theorem dX3_run_12 : decode cX3_run 12 = .ok (.sipush 1000, 3) := by decide +kernel
theorem dX3_run_15 : decode cX3_run 15 = .ok (.if_icmp .le 5, 3) := by decide +kernel
theorem dX3_run_18 : decode cX3_run 18 = .ok (.iconst (-1), 1) := by decide +kernel
theorem dX3_run_19 : decode cX3_run 19 = .ok (.ireturn, 1) := by decide +kernel
theorem dX3_run_20 : decode cX3_run 20 = .ok (.aload_n 0, 1) := by decide +kernel
theorem dX3_run_21 : decode cX3_run 21 = .ok (.getfield 17, 3) := by decide +kernel
theorem dX3_run_24 : decode cX3_run 24 = .ok (.iload_n 1, 1) := by decide +kernel
theorem dX3_run_25 : decode cX3_run 25 = .ok (.aaload, 1) := by decide +kernel
theorem dX3_run_26 : decode cX3_run 26 = .ok (.astore_n 3, 1) := by decide +kernel
theorem dX3_run_27 : decode cX3_run 27 = .ok (.iconst 0, 1) := by decide +kernel
theorem dX3_run_28 : decode cX3_run 28 = .ok (.istore 4, 2) := by decide +kernel
theorem dX3_run_30 : decode cX3_run 30 = .ok (.iload 4, 2) := by decide +kernel
theorem dX3_run_32 : decode cX3_run 32 = .ok (.iload_n 2, 1) := by decide +kernel
theorem dX3_run_33 : decode cX3_run 33 = .ok (.if_icmp .ge 21, 3) := by decide +kernel
theorem dX3_run_36 : decode cX3_run 36 = .ok (.aload_n 3, 1) := by decide +kernel
theorem dX3_run_37 : decode cX3_run 37 = .ok (.getfield 50, 3) := by decide +kernel
theorem dX3_run_40 : decode cX3_run 40 = .ok (.ifCond .eq 14, 3) := by decide +kernel
theorem dX3_run_43 : decode cX3_run 43 = .ok (.aload_n 0, 1) := by decide +kernel
theorem dX3_run_44 : decode cX3_run 44 = .ok (.aload_n 3, 1) := by decide +kernel
theorem dX3_run_45 : decode cX3_run 45 = .ok (.invokevirtual 57, 3) := by decide +kernel
theorem dX3_run_48 : decode cX3_run 48 = .ok (.iinc 4 1, 3) := by decide +kernel
theorem dX3_run_51 : decode cX3_run 51 = .ok (.goto (-21), 3) := by decide +kernel
theorem dX3_run_54 : decode cX3_run 54 = .ok (.iload 4, 2) := by decide +kernel
theorem dX3_run_56 : decode cX3_run 56 = .ok (.ireturn, 1) := by decide +kernel
theorem dX3_result_0 : decode cX3_result 0 = .ok (.iload_n 1, 1) := by decide +kernel
theorem dX3_result_1 : decode cX3_result 1 = .ok (.invokestatic 45, 3) := by decide +kernel
theorem dX3_result_4 : decode cX3_result 4 = .ok (.ifCond .ne 13, 3) := by decide +kernel
theorem dX3_result_7 : decode cX3_result 7 = .ok (.new 61, 3) := by decide +kernel
theorem dX3_result_10 : decode cX3_result 10 = .ok (.dup, 1) := by decide +kernel
theorem dX3_result_11 : decode cX3_result 11 = .ok (.ldc 63, 2) := by decide +kernel
theorem dX3_result_13 : decode cX3_result 13 = .ok (.invokespecial 65, 3) := by decide +kernel
theorem dX3_result_16 : decode cX3_result 16 = .ok (.athrow, 1) := by decide +kernel
theorem dX3_result_17 : decode cX3_result 17 = .ok (.aload_n 0, 1) := by decide +kernel
theorem dX3_result_18 : decode cX3_result 18 = .ok (.getfield 17, 3) := by decide +kernel
theorem dX3_result_21 : decode cX3_result 21 = .ok (.iload_n 1, 1) := by decide +kernel
theorem dX3_result_22 : decode cX3_result 22 = .ok (.aaload, 1) := by decide +kernel
theorem dX3_result_23 : decode cX3_result 23 = .ok (.getfield 68, 3) := by decide +kernel
theorem dX3_result_26 : decode cX3_result 26 = .ok (.ireturn, 1) := by decide +kernel
theorem dX3_process_0 : decode cX3_process 0 = .ok (.iload_n 1, 1) := by decide +kernel
theorem dX3_process_1 : decode cX3_process 1 = .ok (.invokestatic 45, 3) := by decide +kernel
theorem dX3_process_4 : decode cX3_process 4 = .ok (.ifCond .ne 13, 3) := by decide +kernel
theorem dX3_process_7 : decode cX3_process 7 = .ok (.new 61, 3) := by decide +kernel
theorem dX3_process_10 : decode cX3_process 10 = .ok (.dup, 1) := by decide +kernel
theorem dX3_process_11 : decode cX3_process 11 = .ok (.ldc 63, 2) := by decide +kernel
theorem dX3_process_13 : decode cX3_process 13 = .ok (.invokespecial 65, 3) := by decide +kernel
theorem dX3_process_16 : decode cX3_process 16 = .ok (.athrow, 1) := by decide +kernel
theorem dX3_process_17 : decode cX3_process 17 = .ok (.aload_n 0, 1) := by decide +kernel
theorem dX3_process_18 : decode cX3_process 18 = .ok (.getfield 17, 3) := by decide +kernel
theorem dX3_process_21 : decode cX3_process 21 = .ok (.iload_n 1, 1) := by decide +kernel
theorem dX3_process_22 : decode cX3_process 22 = .ok (.aaload, 1) := by decide +kernel
theorem dX3_process_23 : decode cX3_process 23 = .ok (.astore_n 3, 1) := by decide +kernel
theorem dX3_process_24 : decode cX3_process 24 = .ok (.iload_n 2, 1) := by decide +kernel
theorem dX3_process_25 : decode cX3_process 25 = .ok (.tableswitch 102 0 8 #[51, 56, 61, 66, 74, 82, 87, 92, 97], 51) := by decide +kernel
theorem dX3_process_76 : decode cX3_process 76 = .ok (.aload_n 3, 1) := by decide +kernel
theorem dX3_process_77 : decode cX3_process 77 = .ok (.getfield 50, 3) := by decide +kernel
theorem dX3_process_80 : decode cX3_process 80 = .ok (.ireturn, 1) := by decide +kernel
theorem dX3_process_81 : decode cX3_process 81 = .ok (.aload_n 3, 1) := by decide +kernel
theorem dX3_process_82 : decode cX3_process 82 = .ok (.getfield 71, 3) := by decide +kernel
theorem dX3_process_85 : decode cX3_process 85 = .ok (.ireturn, 1) := by decide +kernel
theorem dX3_process_86 : decode cX3_process 86 = .ok (.aload_n 3, 1) := by decide +kernel
theorem dX3_process_87 : decode cX3_process 87 = .ok (.getfield 74, 3) := by decide +kernel
theorem dX3_process_90 : decode cX3_process 90 = .ok (.ireturn, 1) := by decide +kernel
theorem dX3_process_91 : decode cX3_process 91 = .ok (.aload_n 3, 1) := by decide +kernel
theorem dX3_process_92 : decode cX3_process 92 = .ok (.getfield 77, 3) := by decide +kernel
theorem dX3_process_95 : decode cX3_process 95 = .ok (.getfield 81, 3) := by decide +kernel
theorem dX3_process_98 : decode cX3_process 98 = .ok (.ireturn, 1) := by decide +kernel
theorem dX3_process_99 : decode cX3_process 99 = .ok (.aload_n 3, 1) := by decide +kernel
theorem dX3_process_100 : decode cX3_process 100 = .ok (.getfield 86, 3) := by decide +kernel
theorem dX3_process_103 : decode cX3_process 103 = .ok (.getfield 81, 3) := by decide +kernel
theorem dX3_process_106 : decode cX3_process 106 = .ok (.ireturn, 1) := by decide +kernel
theorem dX3_process_107 : decode cX3_process 107 = .ok (.aload_n 3, 1) := by decide +kernel
theorem dX3_process_108 : decode cX3_process 108 = .ok (.getfield 89, 3) := by decide +kernel
theorem dX3_process_111 : decode cX3_process 111 = .ok (.ireturn, 1) := by decide +kernel
theorem dX3_process_112 : decode cX3_process 112 = .ok (.aload_n 3, 1) := by decide +kernel
theorem dX3_process_113 : decode cX3_process 113 = .ok (.getfield 92, 3) := by decide +kernel
theorem dX3_process_116 : decode cX3_process 116 = .ok (.ireturn, 1) := by decide +kernel
theorem dX3_process_117 : decode cX3_process 117 = .ok (.aload_n 3, 1) := by decide +kernel
theorem dX3_process_118 : decode cX3_process 118 = .ok (.getfield 95, 3) := by decide +kernel
theorem dX3_process_121 : decode cX3_process 121 = .ok (.ireturn, 1) := by decide +kernel
theorem dX3_process_122 : decode cX3_process 122 = .ok (.aload_n 3, 1) := by decide +kernel
theorem dX3_process_123 : decode cX3_process 123 = .ok (.getfield 98, 3) := by decide +kernel
theorem dX3_process_126 : decode cX3_process 126 = .ok (.ireturn, 1) := by decide +kernel
theorem dX3_process_127 : decode cX3_process 127 = .ok (.new 61, 3) := by decide +kernel
theorem dX3_process_130 : decode cX3_process 130 = .ok (.dup, 1) := by decide +kernel
theorem dX3_process_131 : decode cX3_process 131 = .ok (.ldc 101, 2) := by decide +kernel
theorem dX3_process_133 : decode cX3_process 133 = .ok (.invokespecial 65, 3) := by decide +kernel
theorem dX3_process_136 : decode cX3_process 136 = .ok (.athrow, 1) := by decide +kernel
theorem dX3_node_0 : decode cX3_node 0 = .ok (.iload_n 1, 1) := by decide +kernel
theorem dX3_node_1 : decode cX3_node 1 = .ok (.invokestatic 103, 3) := by decide +kernel
theorem dX3_node_4 : decode cX3_node 4 = .ok (.ifCond .ne 13, 3) := by decide +kernel
theorem dX3_node_7 : decode cX3_node 7 = .ok (.new 61, 3) := by decide +kernel
theorem dX3_node_10 : decode cX3_node 10 = .ok (.dup, 1) := by decide +kernel
theorem dX3_node_11 : decode cX3_node 11 = .ok (.ldc 106, 2) := by decide +kernel
theorem dX3_node_13 : decode cX3_node 13 = .ok (.invokespecial 65, 3) := by decide +kernel
theorem dX3_node_16 : decode cX3_node 16 = .ok (.athrow, 1) := by decide +kernel
theorem dX3_node_17 : decode cX3_node 17 = .ok (.aload_n 0, 1) := by decide +kernel
theorem dX3_node_18 : decode cX3_node 18 = .ok (.getfield 11, 3) := by decide +kernel
theorem dX3_node_21 : decode cX3_node 21 = .ok (.iload_n 1, 1) := by decide +kernel
theorem dX3_node_22 : decode cX3_node 22 = .ok (.aaload, 1) := by decide +kernel
theorem dX3_node_23 : decode cX3_node 23 = .ok (.astore_n 3, 1) := by decide +kernel
theorem dX3_node_24 : decode cX3_node 24 = .ok (.iload_n 2, 1) := by decide +kernel
theorem dX3_node_25 : decode cX3_node 25 = .ok (.tableswitch 95 0 7 #[47, 52, 57, 62, 75, 80, 85, 90], 47) := by decide +kernel
theorem dX3_node_72 : decode cX3_node 72 = .ok (.aload_n 3, 1) := by decide +kernel
theorem dX3_node_73 : decode cX3_node 73 = .ok (.getfield 108, 3) := by decide +kernel
theorem dX3_node_76 : decode cX3_node 76 = .ok (.ireturn, 1) := by decide +kernel
theorem dX3_node_77 : decode cX3_node 77 = .ok (.aload_n 3, 1) := by decide +kernel
theorem dX3_node_78 : decode cX3_node 78 = .ok (.getfield 111, 3) := by decide +kernel
theorem dX3_node_81 : decode cX3_node 81 = .ok (.ireturn, 1) := by decide +kernel
theorem dX3_node_82 : decode cX3_node 82 = .ok (.aload_n 3, 1) := by decide +kernel
theorem dX3_node_83 : decode cX3_node 83 = .ok (.getfield 114, 3) := by decide +kernel
theorem dX3_node_86 : decode cX3_node 86 = .ok (.ireturn, 1) := by decide +kernel
theorem dX3_node_87 : decode cX3_node 87 = .ok (.aload_n 3, 1) := by decide +kernel
theorem dX3_node_88 : decode cX3_node 88 = .ok (.getfield 117, 3) := by decide +kernel
theorem dX3_node_91 : decode cX3_node 91 = .ok (.ifCond .eq 7, 3) := by decide +kernel
theorem dX3_node_94 : decode cX3_node 94 = .ok (.iconst 1, 1) := by decide +kernel
theorem dX3_node_95 : decode cX3_node 95 = .ok (.goto 4, 3) := by decide +kernel
theorem dX3_node_98 : decode cX3_node 98 = .ok (.iconst 0, 1) := by decide +kernel
theorem dX3_node_99 : decode cX3_node 99 = .ok (.ireturn, 1) := by decide +kernel
theorem dX3_node_100 : decode cX3_node 100 = .ok (.aload_n 3, 1) := by decide +kernel
theorem dX3_node_101 : decode cX3_node 101 = .ok (.getfield 121, 3) := by decide +kernel
theorem dX3_node_104 : decode cX3_node 104 = .ok (.ireturn, 1) := by decide +kernel
theorem dX3_node_105 : decode cX3_node 105 = .ok (.aload_n 3, 1) := by decide +kernel
theorem dX3_node_106 : decode cX3_node 106 = .ok (.getfield 124, 3) := by decide +kernel
theorem dX3_node_109 : decode cX3_node 109 = .ok (.ireturn, 1) := by decide +kernel
theorem dX3_node_110 : decode cX3_node 110 = .ok (.aload_n 3, 1) := by decide +kernel
theorem dX3_node_111 : decode cX3_node 111 = .ok (.getfield 127, 3) := by decide +kernel
theorem dX3_node_114 : decode cX3_node 114 = .ok (.ireturn, 1) := by decide +kernel
theorem dX3_node_115 : decode cX3_node 115 = .ok (.aload_n 3, 1) := by decide +kernel
theorem dX3_node_116 : decode cX3_node 116 = .ok (.getfield 130, 3) := by decide +kernel
theorem dX3_node_119 : decode cX3_node 119 = .ok (.ireturn, 1) := by decide +kernel
theorem dX3_node_120 : decode cX3_node 120 = .ok (.new 61, 3) := by decide +kernel
theorem dX3_node_123 : decode cX3_node 123 = .ok (.dup, 1) := by decide +kernel
theorem dX3_node_124 : decode cX3_node 124 = .ok (.ldc 133, 2) := by decide +kernel
theorem dX3_node_126 : decode cX3_node 126 = .ok (.invokespecial 65, 3) := by decide +kernel
theorem dX3_node_129 : decode cX3_node 129 = .ok (.athrow, 1) := by decide +kernel
theorem dX3_bucket_0 : decode cX3_bucket 0 = .ok (.aload_n 0, 1) := by decide +kernel
theorem dX3_bucket_1 : decode cX3_bucket 1 = .ok (.iload_n 1, 1) := by decide +kernel
theorem dX3_bucket_2 : decode cX3_bucket 2 = .ok (.invokevirtual 135, 3) := by decide +kernel
theorem dX3_bucket_5 : decode cX3_bucket 5 = .ok (.ireturn, 1) := by decide +kernel
theorem dX3_total_0 : decode cX3_total 0 = .ok (.iload_n 1, 1) := by decide +kernel
theorem dX3_total_1 : decode cX3_total 1 = .ok (.tableswitch 62 0 4 #[35, 40, 45, 50, 56], 35) := by decide +kernel
theorem dX3_total_36 : decode cX3_total 36 = .ok (.aload_n 0, 1) := by decide +kernel
theorem dX3_total_37 : decode cX3_total 37 = .ok (.getfield 25, 3) := by decide +kernel
theorem dX3_total_40 : decode cX3_total 40 = .ok (.ireturn, 1) := by decide +kernel
theorem dX3_total_41 : decode cX3_total 41 = .ok (.aload_n 0, 1) := by decide +kernel
theorem dX3_total_42 : decode cX3_total 42 = .ok (.getfield 29, 3) := by decide +kernel
theorem dX3_total_45 : decode cX3_total 45 = .ok (.ireturn, 1) := by decide +kernel
theorem dX3_total_46 : decode cX3_total 46 = .ok (.aload_n 0, 1) := by decide +kernel
theorem dX3_total_47 : decode cX3_total 47 = .ok (.getfield 32, 3) := by decide +kernel
theorem dX3_total_50 : decode cX3_total 50 = .ok (.ireturn, 1) := by decide +kernel
theorem dX3_total_51 : decode cX3_total 51 = .ok (.aload_n 0, 1) := by decide +kernel
theorem dX3_total_52 : decode cX3_total 52 = .ok (.iconst 0, 1) := by decide +kernel
theorem dX3_total_53 : decode cX3_total 53 = .ok (.invokevirtual 138, 3) := by decide +kernel
theorem dX3_total_56 : decode cX3_total 56 = .ok (.ireturn, 1) := by decide +kernel
theorem dX3_total_57 : decode cX3_total 57 = .ok (.aload_n 0, 1) := by decide +kernel
theorem dX3_total_58 : decode cX3_total 58 = .ok (.iconst 2, 1) := by decide +kernel
theorem dX3_total_59 : decode cX3_total 59 = .ok (.invokevirtual 138, 3) := by decide +kernel
theorem dX3_total_62 : decode cX3_total 62 = .ok (.ireturn, 1) := by decide +kernel
theorem dX3_total_63 : decode cX3_total 63 = .ok (.iconst (-1), 1) := by decide +kernel
theorem dX3_total_64 : decode cX3_total 64 = .ok (.ireturn, 1) := by decide +kernel
theorem dX3_advance_0 : decode cX3_advance 0 = .ok (.aload_n 1, 1) := by decide +kernel
theorem dX3_advance_1 : decode cX3_advance 1 = .ok (.getfield 50, 3) := by decide +kernel
theorem dX3_advance_4 : decode cX3_advance 4 = .ok (.tableswitch 172 1 13 #[68, 76, 84, 92, 100, 108, 116, 124, 132, 140, 148, 156, 164], 68) := by decide +kernel
theorem dX3_advance_72 : decode cX3_advance 72 = .ok (.aload_n 0, 1) := by decide +kernel
theorem dX3_advance_73 : decode cX3_advance 73 = .ok (.aload_n 1, 1) := by decide +kernel
theorem dX3_advance_74 : decode cX3_advance 74 = .ok (.invokevirtual 141, 3) := by decide +kernel
theorem dX3_advance_77 : decode cX3_advance 77 = .ok (.goto 99, 3) := by decide +kernel
theorem dX3_advance_80 : decode cX3_advance 80 = .ok (.aload_n 0, 1) := by decide +kernel
theorem dX3_advance_81 : decode cX3_advance 81 = .ok (.aload_n 1, 1) := by decide +kernel
theorem dX3_advance_82 : decode cX3_advance 82 = .ok (.invokevirtual 144, 3) := by decide +kernel
theorem dX3_advance_85 : decode cX3_advance 85 = .ok (.goto 91, 3) := by decide +kernel
theorem dX3_advance_88 : decode cX3_advance 88 = .ok (.aload_n 0, 1) := by decide +kernel
theorem dX3_advance_89 : decode cX3_advance 89 = .ok (.aload_n 1, 1) := by decide +kernel
theorem dX3_advance_90 : decode cX3_advance 90 = .ok (.invokevirtual 147, 3) := by decide +kernel
theorem dX3_advance_93 : decode cX3_advance 93 = .ok (.goto 83, 3) := by decide +kernel
theorem dX3_advance_96 : decode cX3_advance 96 = .ok (.aload_n 0, 1) := by decide +kernel
theorem dX3_advance_97 : decode cX3_advance 97 = .ok (.aload_n 1, 1) := by decide +kernel
theorem dX3_advance_98 : decode cX3_advance 98 = .ok (.invokevirtual 150, 3) := by decide +kernel
theorem dX3_advance_101 : decode cX3_advance 101 = .ok (.goto 75, 3) := by decide +kernel
theorem dX3_advance_104 : decode cX3_advance 104 = .ok (.aload_n 0, 1) := by decide +kernel
theorem dX3_advance_105 : decode cX3_advance 105 = .ok (.aload_n 1, 1) := by decide +kernel
theorem dX3_advance_106 : decode cX3_advance 106 = .ok (.invokevirtual 153, 3) := by decide +kernel
theorem dX3_advance_109 : decode cX3_advance 109 = .ok (.goto 67, 3) := by decide +kernel
theorem dX3_advance_112 : decode cX3_advance 112 = .ok (.aload_n 0, 1) := by decide +kernel
theorem dX3_advance_113 : decode cX3_advance 113 = .ok (.aload_n 1, 1) := by decide +kernel
theorem dX3_advance_114 : decode cX3_advance 114 = .ok (.invokevirtual 156, 3) := by decide +kernel
theorem dX3_advance_117 : decode cX3_advance 117 = .ok (.goto 59, 3) := by decide +kernel
theorem dX3_advance_120 : decode cX3_advance 120 = .ok (.aload_n 0, 1) := by decide +kernel
theorem dX3_advance_121 : decode cX3_advance 121 = .ok (.aload_n 1, 1) := by decide +kernel
theorem dX3_advance_122 : decode cX3_advance 122 = .ok (.invokevirtual 159, 3) := by decide +kernel
theorem dX3_advance_125 : decode cX3_advance 125 = .ok (.goto 51, 3) := by decide +kernel
theorem dX3_advance_128 : decode cX3_advance 128 = .ok (.aload_n 0, 1) := by decide +kernel
theorem dX3_advance_129 : decode cX3_advance 129 = .ok (.aload_n 1, 1) := by decide +kernel
theorem dX3_advance_130 : decode cX3_advance 130 = .ok (.invokevirtual 162, 3) := by decide +kernel
theorem dX3_advance_133 : decode cX3_advance 133 = .ok (.goto 43, 3) := by decide +kernel
theorem dX3_advance_136 : decode cX3_advance 136 = .ok (.aload_n 0, 1) := by decide +kernel
theorem dX3_advance_137 : decode cX3_advance 137 = .ok (.aload_n 1, 1) := by decide +kernel
theorem dX3_advance_138 : decode cX3_advance 138 = .ok (.invokevirtual 165, 3) := by decide +kernel
theorem dX3_advance_141 : decode cX3_advance 141 = .ok (.goto 35, 3) := by decide +kernel
theorem dX3_advance_144 : decode cX3_advance 144 = .ok (.aload_n 0, 1) := by decide +kernel
theorem dX3_advance_145 : decode cX3_advance 145 = .ok (.aload_n 1, 1) := by decide +kernel
theorem dX3_advance_146 : decode cX3_advance 146 = .ok (.invokevirtual 168, 3) := by decide +kernel
theorem dX3_advance_149 : decode cX3_advance 149 = .ok (.goto 27, 3) := by decide +kernel
theorem dX3_advance_152 : decode cX3_advance 152 = .ok (.aload_n 0, 1) := by decide +kernel
theorem dX3_advance_153 : decode cX3_advance 153 = .ok (.aload_n 1, 1) := by decide +kernel
theorem dX3_advance_154 : decode cX3_advance 154 = .ok (.invokevirtual 171, 3) := by decide +kernel
theorem dX3_advance_157 : decode cX3_advance 157 = .ok (.goto 19, 3) := by decide +kernel
theorem dX3_advance_160 : decode cX3_advance 160 = .ok (.aload_n 0, 1) := by decide +kernel
theorem dX3_advance_161 : decode cX3_advance 161 = .ok (.aload_n 1, 1) := by decide +kernel
theorem dX3_advance_162 : decode cX3_advance 162 = .ok (.invokevirtual 174, 3) := by decide +kernel
theorem dX3_advance_165 : decode cX3_advance 165 = .ok (.goto 11, 3) := by decide +kernel
theorem dX3_advance_168 : decode cX3_advance 168 = .ok (.aload_n 0, 1) := by decide +kernel
theorem dX3_advance_169 : decode cX3_advance 169 = .ok (.aload_n 1, 1) := by decide +kernel
theorem dX3_advance_170 : decode cX3_advance 170 = .ok (.invokevirtual 177, 3) := by decide +kernel
theorem dX3_advance_173 : decode cX3_advance 173 = .ok (.goto 3, 3) := by decide +kernel
theorem dX3_advance_176 : decode cX3_advance 176 = .ok (.return_, 1) := by decide +kernel
theorem dX3_enter_0 : decode cX3_enter 0 = .ok (.aload_n 1, 1) := by decide +kernel
theorem dX3_enter_1 : decode cX3_enter 1 = .ok (.aload_n 0, 1) := by decide +kernel
theorem dX3_enter_2 : decode cX3_enter 2 = .ok (.getfield 32, 3) := by decide +kernel
theorem dX3_enter_5 : decode cX3_enter 5 = .ok (.putfield 71, 3) := by decide +kernel
theorem dX3_enter_8 : decode cX3_enter 8 = .ok (.aload_n 1, 1) := by decide +kernel
theorem dX3_enter_9 : decode cX3_enter 9 = .ok (.aload_n 0, 1) := by decide +kernel
theorem dX3_enter_10 : decode cX3_enter 10 = .ok (.getfield 32, 3) := by decide +kernel
theorem dX3_enter_13 : decode cX3_enter 13 = .ok (.putfield 74, 3) := by decide +kernel
theorem dX3_enter_16 : decode cX3_enter 16 = .ok (.aload_n 1, 1) := by decide +kernel
theorem dX3_enter_17 : decode cX3_enter 17 = .ok (.aload_n 1, 1) := by decide +kernel
theorem dX3_enter_18 : decode cX3_enter 18 = .ok (.getfield 180, 3) := by decide +kernel
theorem dX3_enter_21 : decode cX3_enter 21 = .ok (.invokestatic 181, 3) := by decide +kernel
theorem dX3_enter_24 : decode cX3_enter 24 = .ok (.aload_n 0, 1) := by decide +kernel
theorem dX3_enter_25 : decode cX3_enter 25 = .ok (.getfield 25, 3) := by decide +kernel
theorem dX3_enter_28 : decode cX3_enter 28 = .ok (.iconst 1, 1) := by decide +kernel
theorem dX3_enter_29 : decode cX3_enter 29 = .ok (.isub, 1) := by decide +kernel
theorem dX3_enter_30 : decode cX3_enter 30 = .ok (.iand, 1) := by decide +kernel
theorem dX3_enter_31 : decode cX3_enter 31 = .ok (.putfield 184, 3) := by decide +kernel
theorem dX3_enter_34 : decode cX3_enter 34 = .ok (.aload_n 1, 1) := by decide +kernel
theorem dX3_enter_35 : decode cX3_enter 35 = .ok (.getfield 86, 3) := by decide +kernel
theorem dX3_enter_38 : decode cX3_enter 38 = .ok (.iconst 0, 1) := by decide +kernel
theorem dX3_enter_39 : decode cX3_enter 39 = .ok (.invokevirtual 187, 3) := by decide +kernel
theorem dX3_enter_42 : decode cX3_enter 42 = .ok (.aload_n 1, 1) := by decide +kernel
theorem dX3_enter_43 : decode cX3_enter 43 = .ok (.iconst 2, 1) := by decide +kernel
theorem dX3_enter_44 : decode cX3_enter 44 = .ok (.putfield 50, 3) := by decide +kernel
theorem dX3_enter_47 : decode cX3_enter 47 = .ok (.return_, 1) := by decide +kernel
theorem dX3_seekBucket_0 : decode cX3_seekBucket 0 = .ok (.aload_n 0, 1) := by decide +kernel
theorem dX3_seekBucket_1 : decode cX3_seekBucket 1 = .ok (.aload_n 1, 1) := by decide +kernel
theorem dX3_seekBucket_2 : decode cX3_seekBucket 2 = .ok (.getfield 184, 3) := by decide +kernel
theorem dX3_seekBucket_5 : decode cX3_seekBucket 5 = .ok (.invokevirtual 135, 3) := by decide +kernel
theorem dX3_seekBucket_8 : decode cX3_seekBucket 8 = .ok (.istore_n 2, 1) := by decide +kernel
theorem dX3_seekBucket_9 : decode cX3_seekBucket 9 = .ok (.iload_n 2, 1) := by decide +kernel
theorem dX3_seekBucket_10 : decode cX3_seekBucket 10 = .ok (.iconst (-1), 1) := by decide +kernel
theorem dX3_seekBucket_11 : decode cX3_seekBucket 11 = .ok (.if_icmp .eq 16, 3) := by decide +kernel
theorem dX3_seekBucket_14 : decode cX3_seekBucket 14 = .ok (.aload_n 1, 1) := by decide +kernel
theorem dX3_seekBucket_15 : decode cX3_seekBucket 15 = .ok (.iload_n 2, 1) := by decide +kernel
theorem dX3_seekBucket_16 : decode cX3_seekBucket 16 = .ok (.putfield 191, 3) := by decide +kernel
theorem dX3_seekBucket_19 : decode cX3_seekBucket 19 = .ok (.aload_n 1, 1) := by decide +kernel
theorem dX3_seekBucket_20 : decode cX3_seekBucket 20 = .ok (.iconst 3, 1) := by decide +kernel
theorem dX3_seekBucket_21 : decode cX3_seekBucket 21 = .ok (.putfield 50, 3) := by decide +kernel
theorem dX3_seekBucket_24 : decode cX3_seekBucket 24 = .ok (.goto 25, 3) := by decide +kernel
theorem dX3_seekBucket_27 : decode cX3_seekBucket 27 = .ok (.aload_n 1, 1) := by decide +kernel
theorem dX3_seekBucket_28 : decode cX3_seekBucket 28 = .ok (.getfield 86, 3) := by decide +kernel
theorem dX3_seekBucket_31 : decode cX3_seekBucket 31 = .ok (.aload_n 1, 1) := by decide +kernel
theorem dX3_seekBucket_32 : decode cX3_seekBucket 32 = .ok (.getfield 184, 3) := by decide +kernel
theorem dX3_seekBucket_35 : decode cX3_seekBucket 35 = .ok (.invokevirtual 194, 3) := by decide +kernel
theorem dX3_seekBucket_38 : decode cX3_seekBucket 38 = .ok (.aload_n 1, 1) := by decide +kernel
theorem dX3_seekBucket_39 : decode cX3_seekBucket 39 = .ok (.aload_n 1, 1) := by decide +kernel
theorem dX3_seekBucket_40 : decode cX3_seekBucket 40 = .ok (.getfield 184, 3) := by decide +kernel
theorem dX3_seekBucket_43 : decode cX3_seekBucket 43 = .ok (.invokestatic 197, 3) := by decide +kernel
theorem dX3_seekBucket_46 : decode cX3_seekBucket 46 = .ok (.putfield 184, 3) := by decide +kernel
theorem dX3_seekBucket_49 : decode cX3_seekBucket 49 = .ok (.return_, 1) := by decide +kernel
theorem dX3_loadStart_0 : decode cX3_loadStart 0 = .ok (.aload_n 0, 1) := by decide +kernel
theorem dX3_loadStart_1 : decode cX3_loadStart 1 = .ok (.aload_n 1, 1) := by decide +kernel
theorem dX3_loadStart_2 : decode cX3_loadStart 2 = .ok (.invokevirtual 200, 3) := by decide +kernel
theorem dX3_loadStart_5 : decode cX3_loadStart 5 = .ok (.ifCond .ne 4, 3) := by decide +kernel
theorem dX3_loadStart_8 : decode cX3_loadStart 8 = .ok (.return_, 1) := by decide +kernel
theorem dX3_loadStart_9 : decode cX3_loadStart 9 = .ok (.aload_n 1, 1) := by decide +kernel
theorem dX3_loadStart_10 : decode cX3_loadStart 10 = .ok (.aload_n 1, 1) := by decide +kernel
theorem dX3_loadStart_11 : decode cX3_loadStart 11 = .ok (.getfield 191, 3) := by decide +kernel
theorem dX3_loadStart_14 : decode cX3_loadStart 14 = .ok (.putfield 89, 3) := by decide +kernel
theorem dX3_loadStart_17 : decode cX3_loadStart 17 = .ok (.aload_n 1, 1) := by decide +kernel
theorem dX3_loadStart_18 : decode cX3_loadStart 18 = .ok (.aload_n 0, 1) := by decide +kernel
theorem dX3_loadStart_19 : decode cX3_loadStart 19 = .ok (.aload_n 1, 1) := by decide +kernel
theorem dX3_loadStart_20 : decode cX3_loadStart 20 = .ok (.getfield 191, 3) := by decide +kernel
theorem dX3_loadStart_23 : decode cX3_loadStart 23 = .ok (.invokevirtual 204, 3) := by decide +kernel
theorem dX3_loadStart_26 : decode cX3_loadStart 26 = .ok (.putfield 92, 3) := by decide +kernel
theorem dX3_loadStart_29 : decode cX3_loadStart 29 = .ok (.aload_n 1, 1) := by decide +kernel
theorem dX3_loadStart_30 : decode cX3_loadStart 30 = .ok (.iconst 4, 1) := by decide +kernel
theorem dX3_loadStart_31 : decode cX3_loadStart 31 = .ok (.putfield 50, 3) := by decide +kernel
theorem dX3_loadStart_34 : decode cX3_loadStart 34 = .ok (.return_, 1) := by decide +kernel
theorem dX3_loadCur_0 : decode cX3_loadCur 0 = .ok (.aload_n 1, 1) := by decide +kernel
theorem dX3_loadCur_1 : decode cX3_loadCur 1 = .ok (.getfield 92, 3) := by decide +kernel
theorem dX3_loadCur_4 : decode cX3_loadCur 4 = .ok (.invokestatic 103, 3) := by decide +kernel
theorem dX3_loadCur_7 : decode cX3_loadCur 7 = .ok (.ifCond .ne 10, 3) := by decide +kernel
theorem dX3_loadCur_10 : decode cX3_loadCur 10 = .ok (.aload_n 0, 1) := by decide +kernel
theorem dX3_loadCur_11 : decode cX3_loadCur 11 = .ok (.aload_n 1, 1) := by decide +kernel
theorem dX3_loadCur_12 : decode cX3_loadCur 12 = .ok (.iconst 0, 1) := by decide +kernel
theorem dX3_loadCur_13 : decode cX3_loadCur 13 = .ok (.invokevirtual 207, 3) := by decide +kernel
theorem dX3_loadCur_16 : decode cX3_loadCur 16 = .ok (.return_, 1) := by decide +kernel
theorem dX3_loadCur_17 : decode cX3_loadCur 17 = .ok (.aload_n 0, 1) := by decide +kernel
theorem dX3_loadCur_18 : decode cX3_loadCur 18 = .ok (.aload_n 1, 1) := by decide +kernel
theorem dX3_loadCur_19 : decode cX3_loadCur 19 = .ok (.invokevirtual 200, 3) := by decide +kernel
theorem dX3_loadCur_22 : decode cX3_loadCur 22 = .ok (.ifCond .ne 4, 3) := by decide +kernel
theorem dX3_loadCur_25 : decode cX3_loadCur 25 = .ok (.return_, 1) := by decide +kernel
theorem dX3_loadCur_26 : decode cX3_loadCur 26 = .ok (.aload_n 1, 1) := by decide +kernel
theorem dX3_loadCur_27 : decode cX3_loadCur 27 = .ok (.aload_n 0, 1) := by decide +kernel
theorem dX3_loadCur_28 : decode cX3_loadCur 28 = .ok (.getfield 11, 3) := by decide +kernel
theorem dX3_loadCur_31 : decode cX3_loadCur 31 = .ok (.aload_n 1, 1) := by decide +kernel
theorem dX3_loadCur_32 : decode cX3_loadCur 32 = .ok (.getfield 92, 3) := by decide +kernel
theorem dX3_loadCur_35 : decode cX3_loadCur 35 = .ok (.aaload, 1) := by decide +kernel
theorem dX3_loadCur_36 : decode cX3_loadCur 36 = .ok (.getfield 114, 3) := by decide +kernel
theorem dX3_loadCur_39 : decode cX3_loadCur 39 = .ok (.putfield 95, 3) := by decide +kernel
theorem dX3_loadCur_42 : decode cX3_loadCur 42 = .ok (.aload_n 1, 1) := by decide +kernel
theorem dX3_loadCur_43 : decode cX3_loadCur 43 = .ok (.aload_n 0, 1) := by decide +kernel
theorem dX3_loadCur_44 : decode cX3_loadCur 44 = .ok (.getfield 11, 3) := by decide +kernel
theorem dX3_loadCur_47 : decode cX3_loadCur 47 = .ok (.aload_n 1, 1) := by decide +kernel
theorem dX3_loadCur_48 : decode cX3_loadCur 48 = .ok (.getfield 92, 3) := by decide +kernel
theorem dX3_loadCur_51 : decode cX3_loadCur 51 = .ok (.aaload, 1) := by decide +kernel
theorem dX3_loadCur_52 : decode cX3_loadCur 52 = .ok (.getfield 117, 3) := by decide +kernel
theorem dX3_loadCur_55 : decode cX3_loadCur 55 = .ok (.putfield 211, 3) := by decide +kernel
theorem dX3_loadCur_58 : decode cX3_loadCur 58 = .ok (.aload_n 1, 1) := by decide +kernel
theorem dX3_loadCur_59 : decode cX3_loadCur 59 = .ok (.iconst 5, 1) := by decide +kernel
theorem dX3_loadCur_60 : decode cX3_loadCur 60 = .ok (.putfield 50, 3) := by decide +kernel
theorem dX3_loadCur_63 : decode cX3_loadCur 63 = .ok (.return_, 1) := by decide +kernel
theorem dX3_compare_0 : decode cX3_compare 0 = .ok (.aload_n 1, 1) := by decide +kernel
theorem dX3_compare_1 : decode cX3_compare 1 = .ok (.getfield 92, 3) := by decide +kernel
theorem dX3_compare_4 : decode cX3_compare 4 = .ok (.invokestatic 103, 3) := by decide +kernel
theorem dX3_compare_7 : decode cX3_compare 7 = .ok (.ifCond .eq 18, 3) := by decide +kernel
theorem dX3_compare_10 : decode cX3_compare 10 = .ok (.aload_n 0, 1) := by decide +kernel
theorem dX3_compare_11 : decode cX3_compare 11 = .ok (.aload_n 1, 1) := by decide +kernel
theorem dX3_compare_12 : decode cX3_compare 12 = .ok (.getfield 89, 3) := by decide +kernel
theorem dX3_compare_15 : decode cX3_compare 15 = .ok (.aload_n 1, 1) := by decide +kernel
theorem dX3_compare_16 : decode cX3_compare 16 = .ok (.getfield 92, 3) := by decide +kernel
theorem dX3_compare_19 : decode cX3_compare 19 = .ok (.invokevirtual 214, 3) := by decide +kernel
theorem dX3_compare_22 : decode cX3_compare 22 = .ok (.ifCond .ne 9, 3) := by decide +kernel
theorem dX3_compare_25 : decode cX3_compare 25 = .ok (.aload_n 1, 1) := by decide +kernel
theorem dX3_compare_26 : decode cX3_compare 26 = .ok (.iconst 3, 1) := by decide +kernel
theorem dX3_compare_27 : decode cX3_compare 27 = .ok (.putfield 50, 3) := by decide +kernel
theorem dX3_compare_30 : decode cX3_compare 30 = .ok (.return_, 1) := by decide +kernel
theorem dX3_compare_31 : decode cX3_compare 31 = .ok (.aload_n 1, 1) := by decide +kernel
theorem dX3_compare_32 : decode cX3_compare 32 = .ok (.getfield 211, 3) := by decide +kernel
theorem dX3_compare_35 : decode cX3_compare 35 = .ok (.ifCond .eq 10, 3) := by decide +kernel
theorem dX3_compare_38 : decode cX3_compare 38 = .ok (.aload_n 1, 1) := by decide +kernel
theorem dX3_compare_39 : decode cX3_compare 39 = .ok (.bipush 6, 2) := by decide +kernel
theorem dX3_compare_41 : decode cX3_compare 41 = .ok (.putfield 50, 3) := by decide +kernel
theorem dX3_compare_44 : decode cX3_compare 44 = .ok (.return_, 1) := by decide +kernel
theorem dX3_compare_45 : decode cX3_compare 45 = .ok (.aload_n 0, 1) := by decide +kernel
theorem dX3_compare_46 : decode cX3_compare 46 = .ok (.getfield 11, 3) := by decide +kernel
theorem dX3_compare_49 : decode cX3_compare 49 = .ok (.aload_n 1, 1) := by decide +kernel
theorem dX3_compare_50 : decode cX3_compare 50 = .ok (.getfield 92, 3) := by decide +kernel
theorem dX3_compare_53 : decode cX3_compare 53 = .ok (.aaload, 1) := by decide +kernel
theorem dX3_compare_54 : decode cX3_compare 54 = .ok (.getfield 111, 3) := by decide +kernel
theorem dX3_compare_57 : decode cX3_compare 57 = .ok (.istore_n 2, 1) := by decide +kernel
theorem dX3_compare_58 : decode cX3_compare 58 = .ok (.aload_n 1, 1) := by decide +kernel
theorem dX3_compare_59 : decode cX3_compare 59 = .ok (.invokestatic 218, 3) := by decide +kernel
theorem dX3_compare_62 : decode cX3_compare 62 = .ok (.istore_n 3, 1) := by decide +kernel
theorem dX3_compare_63 : decode cX3_compare 63 = .ok (.iload_n 2, 1) := by decide +kernel
theorem dX3_compare_64 : decode cX3_compare 64 = .ok (.iload_n 3, 1) := by decide +kernel
theorem dX3_compare_65 : decode cX3_compare 65 = .ok (.if_icmp .ge 27, 3) := by decide +kernel
theorem dX3_compare_68 : decode cX3_compare 68 = .ok (.aload_n 1, 1) := by decide +kernel
theorem dX3_compare_69 : decode cX3_compare 69 = .ok (.aload_n 1, 1) := by decide +kernel
theorem dX3_compare_70 : decode cX3_compare 70 = .ok (.getfield 92, 3) := by decide +kernel
theorem dX3_compare_73 : decode cX3_compare 73 = .ok (.putfield 89, 3) := by decide +kernel
theorem dX3_compare_76 : decode cX3_compare 76 = .ok (.aload_n 1, 1) := by decide +kernel
theorem dX3_compare_77 : decode cX3_compare 77 = .ok (.aload_n 1, 1) := by decide +kernel
theorem dX3_compare_78 : decode cX3_compare 78 = .ok (.getfield 95, 3) := by decide +kernel
theorem dX3_compare_81 : decode cX3_compare 81 = .ok (.putfield 92, 3) := by decide +kernel
theorem dX3_compare_84 : decode cX3_compare 84 = .ok (.aload_n 1, 1) := by decide +kernel
theorem dX3_compare_85 : decode cX3_compare 85 = .ok (.iconst 4, 1) := by decide +kernel
theorem dX3_compare_86 : decode cX3_compare 86 = .ok (.putfield 50, 3) := by decide +kernel
theorem dX3_compare_89 : decode cX3_compare 89 = .ok (.goto 18, 3) := by decide +kernel
theorem dX3_compare_92 : decode cX3_compare 92 = .ok (.aload_n 0, 1) := by decide +kernel
theorem dX3_compare_93 : decode cX3_compare 93 = .ok (.aload_n 1, 1) := by decide +kernel
theorem dX3_compare_94 : decode cX3_compare 94 = .ok (.iload_n 2, 1) := by decide +kernel
theorem dX3_compare_95 : decode cX3_compare 95 = .ok (.iload_n 3, 1) := by decide +kernel
theorem dX3_compare_96 : decode cX3_compare 96 = .ok (.if_icmp .ne 7, 3) := by decide +kernel
theorem dX3_compare_99 : decode cX3_compare 99 = .ok (.iconst 1, 1) := by decide +kernel
theorem dX3_compare_100 : decode cX3_compare 100 = .ok (.goto 4, 3) := by decide +kernel
theorem dX3_compare_103 : decode cX3_compare 103 = .ok (.iconst 0, 1) := by decide +kernel
theorem dX3_compare_104 : decode cX3_compare 104 = .ok (.invokevirtual 207, 3) := by decide +kernel
theorem dX3_compare_107 : decode cX3_compare 107 = .ok (.return_, 1) := by decide +kernel
theorem dX3_searchOver_0 : decode cX3_searchOver 0 = .ok (.aload_n 1, 1) := by decide +kernel
theorem dX3_searchOver_1 : decode cX3_searchOver 1 = .ok (.getfield 86, 3) := by decide +kernel
theorem dX3_searchOver_4 : decode cX3_searchOver 4 = .ok (.invokevirtual 222, 3) := by decide +kernel
theorem dX3_searchOver_7 : decode cX3_searchOver 7 = .ok (.ifCond .ne 29, 3) := by decide +kernel
theorem dX3_searchOver_10 : decode cX3_searchOver 10 = .ok (.aload_n 1, 1) := by decide +kernel
theorem dX3_searchOver_11 : decode cX3_searchOver 11 = .ok (.aload_n 1, 1) := by decide +kernel
theorem dX3_searchOver_12 : decode cX3_searchOver 12 = .ok (.getfield 92, 3) := by decide +kernel
theorem dX3_searchOver_15 : decode cX3_searchOver 15 = .ok (.putfield 226, 3) := by decide +kernel
theorem dX3_searchOver_18 : decode cX3_searchOver 18 = .ok (.aload_n 1, 1) := by decide +kernel
theorem dX3_searchOver_19 : decode cX3_searchOver 19 = .ok (.iload_n 2, 1) := by decide +kernel
theorem dX3_searchOver_20 : decode cX3_searchOver 20 = .ok (.ifCond .eq 8, 3) := by decide +kernel
theorem dX3_searchOver_23 : decode cX3_searchOver 23 = .ok (.bipush 9, 2) := by decide +kernel
theorem dX3_searchOver_25 : decode cX3_searchOver 25 = .ok (.goto 5, 3) := by decide +kernel
theorem dX3_searchOver_28 : decode cX3_searchOver 28 = .ok (.bipush 7, 2) := by decide +kernel
theorem dX3_searchOver_30 : decode cX3_searchOver 30 = .ok (.putfield 50, 3) := by decide +kernel
theorem dX3_searchOver_33 : decode cX3_searchOver 33 = .ok (.goto 107, 3) := by decide +kernel
theorem dX3_searchOver_36 : decode cX3_searchOver 36 = .ok (.aload_n 1, 1) := by decide +kernel
theorem dX3_searchOver_37 : decode cX3_searchOver 37 = .ok (.getfield 229, 3) := by decide +kernel
theorem dX3_searchOver_40 : decode cX3_searchOver 40 = .ok (.ifCond .eq 12, 3) := by decide +kernel
theorem dX3_searchOver_43 : decode cX3_searchOver 43 = .ok (.aload_n 1, 1) := by decide +kernel
theorem dX3_searchOver_44 : decode cX3_searchOver 44 = .ok (.bipush 12, 2) := by decide +kernel
theorem dX3_searchOver_46 : decode cX3_searchOver 46 = .ok (.putfield 50, 3) := by decide +kernel
theorem dX3_searchOver_49 : decode cX3_searchOver 49 = .ok (.goto 91, 3) := by decide +kernel
theorem dX3_searchOver_52 : decode cX3_searchOver 52 = .ok (.aload_n 1, 1) := by decide +kernel
theorem dX3_searchOver_53 : decode cX3_searchOver 53 = .ok (.getfield 232, 3) := by decide +kernel
theorem dX3_searchOver_56 : decode cX3_searchOver 56 = .ok (.ifCond .ne 27, 3) := by decide +kernel
theorem dX3_searchOver_59 : decode cX3_searchOver 59 = .ok (.aload_n 0, 1) := by decide +kernel
theorem dX3_searchOver_60 : decode cX3_searchOver 60 = .ok (.aload_n 1, 1) := by decide +kernel
theorem dX3_searchOver_61 : decode cX3_searchOver 61 = .ok (.iload_n 2, 1) := by decide +kernel
theorem dX3_searchOver_62 : decode cX3_searchOver 62 = .ok (.ifCond .eq 14, 3) := by decide +kernel
theorem dX3_searchOver_65 : decode cX3_searchOver 65 = .ok (.aload_n 0, 1) := by decide +kernel
theorem dX3_searchOver_66 : decode cX3_searchOver 66 = .ok (.aload_n 1, 1) := by decide +kernel
theorem dX3_searchOver_67 : decode cX3_searchOver 67 = .ok (.getfield 92, 3) := by decide +kernel
theorem dX3_searchOver_70 : decode cX3_searchOver 70 = .ok (.invokevirtual 235, 3) := by decide +kernel
theorem dX3_searchOver_73 : decode cX3_searchOver 73 = .ok (.goto 4, 3) := by decide +kernel
theorem dX3_searchOver_76 : decode cX3_searchOver 76 = .ok (.iconst (-1), 1) := by decide +kernel
theorem dX3_searchOver_77 : decode cX3_searchOver 77 = .ok (.invokevirtual 238, 3) := by decide +kernel
theorem dX3_searchOver_80 : decode cX3_searchOver 80 = .ok (.goto 60, 3) := by decide +kernel
theorem dX3_searchOver_83 : decode cX3_searchOver 83 = .ok (.aload_n 1, 1) := by decide +kernel
theorem dX3_searchOver_84 : decode cX3_searchOver 84 = .ok (.getfield 232, 3) := by decide +kernel
theorem dX3_searchOver_87 : decode cX3_searchOver 87 = .ok (.iconst 1, 1) := by decide +kernel
theorem dX3_searchOver_88 : decode cX3_searchOver 88 = .ok (.if_icmp .ne 16, 3) := by decide +kernel
theorem dX3_searchOver_91 : decode cX3_searchOver 91 = .ok (.iload_n 2, 1) := by decide +kernel
theorem dX3_searchOver_92 : decode cX3_searchOver 92 = .ok (.ifCond .eq 12, 3) := by decide +kernel
theorem dX3_searchOver_95 : decode cX3_searchOver 95 = .ok (.aload_n 0, 1) := by decide +kernel
theorem dX3_searchOver_96 : decode cX3_searchOver 96 = .ok (.aload_n 1, 1) := by decide +kernel
theorem dX3_searchOver_97 : decode cX3_searchOver 97 = .ok (.iconst 0, 1) := by decide +kernel
theorem dX3_searchOver_98 : decode cX3_searchOver 98 = .ok (.invokevirtual 238, 3) := by decide +kernel
theorem dX3_searchOver_101 : decode cX3_searchOver 101 = .ok (.goto 39, 3) := by decide +kernel
theorem dX3_searchOver_104 : decode cX3_searchOver 104 = .ok (.aload_n 1, 1) := by decide +kernel
theorem dX3_searchOver_105 : decode cX3_searchOver 105 = .ok (.getfield 232, 3) := by decide +kernel
theorem dX3_searchOver_108 : decode cX3_searchOver 108 = .ok (.iconst 1, 1) := by decide +kernel
theorem dX3_searchOver_109 : decode cX3_searchOver 109 = .ok (.if_icmp .ne 12, 3) := by decide +kernel
theorem dX3_searchOver_112 : decode cX3_searchOver 112 = .ok (.aload_n 1, 1) := by decide +kernel
theorem dX3_searchOver_113 : decode cX3_searchOver 113 = .ok (.bipush 7, 2) := by decide +kernel
theorem dX3_searchOver_115 : decode cX3_searchOver 115 = .ok (.putfield 50, 3) := by decide +kernel
theorem dX3_searchOver_118 : decode cX3_searchOver 118 = .ok (.goto 22, 3) := by decide +kernel
theorem dX3_searchOver_121 : decode cX3_searchOver 121 = .ok (.iload_n 2, 1) := by decide +kernel
theorem dX3_searchOver_122 : decode cX3_searchOver 122 = .ok (.ifCond .eq 12, 3) := by decide +kernel
theorem dX3_searchOver_125 : decode cX3_searchOver 125 = .ok (.aload_n 1, 1) := by decide +kernel
theorem dX3_searchOver_126 : decode cX3_searchOver 126 = .ok (.bipush 10, 2) := by decide +kernel
theorem dX3_searchOver_128 : decode cX3_searchOver 128 = .ok (.putfield 50, 3) := by decide +kernel
theorem dX3_searchOver_131 : decode cX3_searchOver 131 = .ok (.goto 9, 3) := by decide +kernel
theorem dX3_searchOver_134 : decode cX3_searchOver 134 = .ok (.aload_n 0, 1) := by decide +kernel
theorem dX3_searchOver_135 : decode cX3_searchOver 135 = .ok (.aload_n 1, 1) := by decide +kernel
theorem dX3_searchOver_136 : decode cX3_searchOver 136 = .ok (.iconst (-1), 1) := by decide +kernel
theorem dX3_searchOver_137 : decode cX3_searchOver 137 = .ok (.invokevirtual 238, 3) := by decide +kernel
theorem dX3_searchOver_140 : decode cX3_searchOver 140 = .ok (.return_, 1) := by decide +kernel
theorem dX3_unlinkMarked_0 : decode cX3_unlinkMarked 0 = .ok (.aload_n 0, 1) := by decide +kernel
theorem dX3_unlinkMarked_1 : decode cX3_unlinkMarked 1 = .ok (.aload_n 1, 1) := by decide +kernel
theorem dX3_unlinkMarked_2 : decode cX3_unlinkMarked 2 = .ok (.getfield 89, 3) := by decide +kernel
theorem dX3_unlinkMarked_5 : decode cX3_unlinkMarked 5 = .ok (.aload_n 1, 1) := by decide +kernel
theorem dX3_unlinkMarked_6 : decode cX3_unlinkMarked 6 = .ok (.getfield 92, 3) := by decide +kernel
theorem dX3_unlinkMarked_9 : decode cX3_unlinkMarked 9 = .ok (.aload_n 1, 1) := by decide +kernel
theorem dX3_unlinkMarked_10 : decode cX3_unlinkMarked 10 = .ok (.getfield 95, 3) := by decide +kernel
theorem dX3_unlinkMarked_13 : decode cX3_unlinkMarked 13 = .ok (.iconst 0, 1) := by decide +kernel
theorem dX3_unlinkMarked_14 : decode cX3_unlinkMarked 14 = .ok (.invokevirtual 242, 3) := by decide +kernel
theorem dX3_unlinkMarked_17 : decode cX3_unlinkMarked 17 = .ok (.ifCond .eq 28, 3) := by decide +kernel
theorem dX3_unlinkMarked_20 : decode cX3_unlinkMarked 20 = .ok (.aload_n 0, 1) := by decide +kernel
theorem dX3_unlinkMarked_21 : decode cX3_unlinkMarked 21 = .ok (.aload_n 1, 1) := by decide +kernel
theorem dX3_unlinkMarked_22 : decode cX3_unlinkMarked 22 = .ok (.aload_n 1, 1) := by decide +kernel
theorem dX3_unlinkMarked_23 : decode cX3_unlinkMarked 23 = .ok (.getfield 92, 3) := by decide +kernel
theorem dX3_unlinkMarked_26 : decode cX3_unlinkMarked 26 = .ok (.invokevirtual 246, 3) := by decide +kernel
theorem dX3_unlinkMarked_29 : decode cX3_unlinkMarked 29 = .ok (.aload_n 1, 1) := by decide +kernel
theorem dX3_unlinkMarked_30 : decode cX3_unlinkMarked 30 = .ok (.aload_n 1, 1) := by decide +kernel
theorem dX3_unlinkMarked_31 : decode cX3_unlinkMarked 31 = .ok (.getfield 95, 3) := by decide +kernel
theorem dX3_unlinkMarked_34 : decode cX3_unlinkMarked 34 = .ok (.putfield 92, 3) := by decide +kernel
theorem dX3_unlinkMarked_37 : decode cX3_unlinkMarked 37 = .ok (.aload_n 1, 1) := by decide +kernel
theorem dX3_unlinkMarked_38 : decode cX3_unlinkMarked 38 = .ok (.iconst 4, 1) := by decide +kernel
theorem dX3_unlinkMarked_39 : decode cX3_unlinkMarked 39 = .ok (.putfield 50, 3) := by decide +kernel
theorem dX3_unlinkMarked_42 : decode cX3_unlinkMarked 42 = .ok (.goto 8, 3) := by decide +kernel
theorem dX3_unlinkMarked_45 : decode cX3_unlinkMarked 45 = .ok (.aload_n 1, 1) := by decide +kernel
theorem dX3_unlinkMarked_46 : decode cX3_unlinkMarked 46 = .ok (.iconst 3, 1) := by decide +kernel
theorem dX3_unlinkMarked_47 : decode cX3_unlinkMarked 47 = .ok (.putfield 50, 3) := by decide +kernel
theorem dX3_unlinkMarked_50 : decode cX3_unlinkMarked 50 = .ok (.return_, 1) := by decide +kernel
theorem dX3_prepare_0 : decode cX3_prepare 0 = .ok (.aload_n 1, 1) := by decide +kernel
theorem dX3_prepare_1 : decode cX3_prepare 1 = .ok (.getfield 98, 3) := by decide +kernel
theorem dX3_prepare_4 : decode cX3_prepare 4 = .ok (.iconst (-1), 1) := by decide +kernel
theorem dX3_prepare_5 : decode cX3_prepare 5 = .ok (.if_icmp .ne 12, 3) := by decide +kernel
theorem dX3_prepare_8 : decode cX3_prepare 8 = .ok (.aload_n 1, 1) := by decide +kernel
theorem dX3_prepare_9 : decode cX3_prepare 9 = .ok (.aload_n 0, 1) := by decide +kernel
theorem dX3_prepare_10 : decode cX3_prepare 10 = .ok (.aload_n 1, 1) := by decide +kernel
theorem dX3_prepare_11 : decode cX3_prepare 11 = .ok (.invokevirtual 249, 3) := by decide +kernel
theorem dX3_prepare_14 : decode cX3_prepare 14 = .ok (.putfield 98, 3) := by decide +kernel
theorem dX3_prepare_17 : decode cX3_prepare 17 = .ok (.aload_n 1, 1) := by decide +kernel
theorem dX3_prepare_18 : decode cX3_prepare 18 = .ok (.getfield 98, 3) := by decide +kernel
theorem dX3_prepare_21 : decode cX3_prepare 21 = .ok (.invokestatic 103, 3) := by decide +kernel
theorem dX3_prepare_24 : decode cX3_prepare 24 = .ok (.ifCond .ne 11, 3) := by decide +kernel
theorem dX3_prepare_27 : decode cX3_prepare 27 = .ok (.aload_n 0, 1) := by decide +kernel
theorem dX3_prepare_28 : decode cX3_prepare 28 = .ok (.aload_n 1, 1) := by decide +kernel
theorem dX3_prepare_29 : decode cX3_prepare 29 = .ok (.bipush (-2), 2) := by decide +kernel
theorem dX3_prepare_31 : decode cX3_prepare 31 = .ok (.invokevirtual 238, 3) := by decide +kernel
theorem dX3_prepare_34 : decode cX3_prepare 34 = .ok (.return_, 1) := by decide +kernel
theorem dX3_prepare_35 : decode cX3_prepare 35 = .ok (.aload_n 0, 1) := by decide +kernel
theorem dX3_prepare_36 : decode cX3_prepare 36 = .ok (.getfield 11, 3) := by decide +kernel
theorem dX3_prepare_39 : decode cX3_prepare 39 = .ok (.aload_n 1, 1) := by decide +kernel
theorem dX3_prepare_40 : decode cX3_prepare 40 = .ok (.getfield 98, 3) := by decide +kernel
theorem dX3_prepare_43 : decode cX3_prepare 43 = .ok (.aaload, 1) := by decide +kernel
theorem dX3_prepare_44 : decode cX3_prepare 44 = .ok (.aload_n 1, 1) := by decide +kernel
theorem dX3_prepare_45 : decode cX3_prepare 45 = .ok (.getfield 92, 3) := by decide +kernel
theorem dX3_prepare_48 : decode cX3_prepare 48 = .ok (.iconst 0, 1) := by decide +kernel
theorem dX3_prepare_49 : decode cX3_prepare 49 = .ok (.invokevirtual 252, 3) := by decide +kernel
theorem dX3_prepare_52 : decode cX3_prepare 52 = .ok (.aload_n 1, 1) := by decide +kernel
theorem dX3_prepare_53 : decode cX3_prepare 53 = .ok (.bipush 8, 2) := by decide +kernel
theorem dX3_prepare_55 : decode cX3_prepare 55 = .ok (.putfield 50, 3) := by decide +kernel
theorem dX3_prepare_58 : decode cX3_prepare 58 = .ok (.return_, 1) := by decide +kernel
theorem dX3_link_0 : decode cX3_link 0 = .ok (.aload_n 0, 1) := by decide +kernel
theorem dX3_link_1 : decode cX3_link 1 = .ok (.aload_n 1, 1) := by decide +kernel
theorem dX3_link_2 : decode cX3_link 2 = .ok (.getfield 89, 3) := by decide +kernel
theorem dX3_link_5 : decode cX3_link 5 = .ok (.aload_n 1, 1) := by decide +kernel
theorem dX3_link_6 : decode cX3_link 6 = .ok (.getfield 92, 3) := by decide +kernel
theorem dX3_link_9 : decode cX3_link 9 = .ok (.aload_n 1, 1) := by decide +kernel
theorem dX3_link_10 : decode cX3_link 10 = .ok (.getfield 98, 3) := by decide +kernel
theorem dX3_link_13 : decode cX3_link 13 = .ok (.iconst 0, 1) := by decide +kernel
theorem dX3_link_14 : decode cX3_link 14 = .ok (.invokevirtual 242, 3) := by decide +kernel
theorem dX3_link_17 : decode cX3_link 17 = .ok (.ifCond .ne 9, 3) := by decide +kernel
theorem dX3_link_20 : decode cX3_link 20 = .ok (.aload_n 1, 1) := by decide +kernel
theorem dX3_link_21 : decode cX3_link 21 = .ok (.iconst 3, 1) := by decide +kernel
theorem dX3_link_22 : decode cX3_link 22 = .ok (.putfield 50, 3) := by decide +kernel
theorem dX3_link_25 : decode cX3_link 25 = .ok (.return_, 1) := by decide +kernel
theorem dX3_link_26 : decode cX3_link 26 = .ok (.aload_n 1, 1) := by decide +kernel
theorem dX3_link_27 : decode cX3_link 27 = .ok (.getfield 98, 3) := by decide +kernel
theorem dX3_link_30 : decode cX3_link 30 = .ok (.istore_n 2, 1) := by decide +kernel
theorem dX3_link_31 : decode cX3_link 31 = .ok (.aload_n 1, 1) := by decide +kernel
theorem dX3_link_32 : decode cX3_link 32 = .ok (.iconst (-1), 1) := by decide +kernel
theorem dX3_link_33 : decode cX3_link 33 = .ok (.putfield 98, 3) := by decide +kernel
theorem dX3_link_36 : decode cX3_link 36 = .ok (.aload_n 1, 1) := by decide +kernel
theorem dX3_link_37 : decode cX3_link 37 = .ok (.getfield 86, 3) := by decide +kernel
theorem dX3_link_40 : decode cX3_link 40 = .ok (.invokevirtual 222, 3) := by decide +kernel
theorem dX3_link_43 : decode cX3_link 43 = .ok (.ifCond .eq 22, 3) := by decide +kernel
theorem dX3_link_46 : decode cX3_link 46 = .ok (.aload_n 0, 1) := by decide +kernel
theorem dX3_link_47 : decode cX3_link 47 = .ok (.dup, 1) := by decide +kernel
theorem dX3_link_48 : decode cX3_link 48 = .ok (.getfield 29, 3) := by decide +kernel
theorem dX3_link_51 : decode cX3_link 51 = .ok (.iconst 1, 1) := by decide +kernel
theorem dX3_link_52 : decode cX3_link 52 = .ok (.iadd, 1) := by decide +kernel
theorem dX3_link_53 : decode cX3_link 53 = .ok (.putfield 29, 3) := by decide +kernel
theorem dX3_link_56 : decode cX3_link 56 = .ok (.aload_n 1, 1) := by decide +kernel
theorem dX3_link_57 : decode cX3_link 57 = .ok (.bipush 13, 2) := by decide +kernel
theorem dX3_link_59 : decode cX3_link 59 = .ok (.putfield 50, 3) := by decide +kernel
theorem dX3_link_62 : decode cX3_link 62 = .ok (.goto 14, 3) := by decide +kernel
theorem dX3_link_65 : decode cX3_link 65 = .ok (.aload_n 1, 1) := by decide +kernel
theorem dX3_link_66 : decode cX3_link 66 = .ok (.iload_n 2, 1) := by decide +kernel
theorem dX3_link_67 : decode cX3_link 67 = .ok (.putfield 226, 3) := by decide +kernel
theorem dX3_link_70 : decode cX3_link 70 = .ok (.aload_n 1, 1) := by decide +kernel
theorem dX3_link_71 : decode cX3_link 71 = .ok (.bipush 9, 2) := by decide +kernel
theorem dX3_link_73 : decode cX3_link 73 = .ok (.putfield 50, 3) := by decide +kernel
theorem dX3_link_76 : decode cX3_link 76 = .ok (.return_, 1) := by decide +kernel
theorem dX3_setBucket_0 : decode cX3_setBucket 0 = .ok (.aload_n 0, 1) := by decide +kernel
theorem dX3_setBucket_1 : decode cX3_setBucket 1 = .ok (.aload_n 1, 1) := by decide +kernel
theorem dX3_setBucket_2 : decode cX3_setBucket 2 = .ok (.invokevirtual 256, 3) := by decide +kernel
theorem dX3_setBucket_5 : decode cX3_setBucket 5 = .ok (.aload_n 1, 1) := by decide +kernel
theorem dX3_setBucket_6 : decode cX3_setBucket 6 = .ok (.getfield 86, 3) := by decide +kernel
theorem dX3_setBucket_9 : decode cX3_setBucket 9 = .ok (.invokevirtual 259, 3) := by decide +kernel
theorem dX3_setBucket_12 : decode cX3_setBucket 12 = .ok (.istore_n 2, 1) := by decide +kernel
theorem dX3_setBucket_13 : decode cX3_setBucket 13 = .ok (.iload_n 2, 1) := by decide +kernel
theorem dX3_setBucket_14 : decode cX3_setBucket 14 = .ok (.invokestatic 263, 3) := by decide +kernel
theorem dX3_setBucket_17 : decode cX3_setBucket 17 = .ok (.ifCond .eq 23, 3) := by decide +kernel
theorem dX3_setBucket_20 : decode cX3_setBucket 20 = .ok (.aload_n 0, 1) := by decide +kernel
theorem dX3_setBucket_21 : decode cX3_setBucket 21 = .ok (.getfield 21, 3) := by decide +kernel
theorem dX3_setBucket_24 : decode cX3_setBucket 24 = .ok (.iload_n 2, 1) := by decide +kernel
theorem dX3_setBucket_25 : decode cX3_setBucket 25 = .ok (.iaload, 1) := by decide +kernel
theorem dX3_setBucket_26 : decode cX3_setBucket 26 = .ok (.iconst (-1), 1) := by decide +kernel
theorem dX3_setBucket_27 : decode cX3_setBucket 27 = .ok (.if_icmp .ne 13, 3) := by decide +kernel
theorem dX3_setBucket_30 : decode cX3_setBucket 30 = .ok (.aload_n 0, 1) := by decide +kernel
theorem dX3_setBucket_31 : decode cX3_setBucket 31 = .ok (.getfield 21, 3) := by decide +kernel
theorem dX3_setBucket_34 : decode cX3_setBucket 34 = .ok (.iload_n 2, 1) := by decide +kernel
theorem dX3_setBucket_35 : decode cX3_setBucket 35 = .ok (.aload_n 1, 1) := by decide +kernel
theorem dX3_setBucket_36 : decode cX3_setBucket 36 = .ok (.getfield 226, 3) := by decide +kernel
theorem dX3_setBucket_39 : decode cX3_setBucket 39 = .ok (.iastore, 1) := by decide +kernel
theorem dX3_setBucket_40 : decode cX3_setBucket 40 = .ok (.aload_n 1, 1) := by decide +kernel
theorem dX3_setBucket_41 : decode cX3_setBucket 41 = .ok (.getfield 86, 3) := by decide +kernel
theorem dX3_setBucket_44 : decode cX3_setBucket 44 = .ok (.invokevirtual 266, 3) := by decide +kernel
theorem dX3_setBucket_47 : decode cX3_setBucket 47 = .ok (.aload_n 1, 1) := by decide +kernel
theorem dX3_setBucket_48 : decode cX3_setBucket 48 = .ok (.aload_n 1, 1) := by decide +kernel
theorem dX3_setBucket_49 : decode cX3_setBucket 49 = .ok (.getfield 226, 3) := by decide +kernel
theorem dX3_setBucket_52 : decode cX3_setBucket 52 = .ok (.putfield 191, 3) := by decide +kernel
theorem dX3_setBucket_55 : decode cX3_setBucket 55 = .ok (.aload_n 1, 1) := by decide +kernel
theorem dX3_setBucket_56 : decode cX3_setBucket 56 = .ok (.iconst 3, 1) := by decide +kernel
theorem dX3_setBucket_57 : decode cX3_setBucket 57 = .ok (.putfield 50, 3) := by decide +kernel
theorem dX3_setBucket_60 : decode cX3_setBucket 60 = .ok (.return_, 1) := by decide +kernel
theorem dX3_mark_0 : decode cX3_mark 0 = .ok (.aload_n 0, 1) := by decide +kernel
theorem dX3_mark_1 : decode cX3_mark 1 = .ok (.aload_n 1, 1) := by decide +kernel
theorem dX3_mark_2 : decode cX3_mark 2 = .ok (.getfield 92, 3) := by decide +kernel
theorem dX3_mark_5 : decode cX3_mark 5 = .ok (.aload_n 1, 1) := by decide +kernel
theorem dX3_mark_6 : decode cX3_mark 6 = .ok (.getfield 95, 3) := by decide +kernel
theorem dX3_mark_9 : decode cX3_mark 9 = .ok (.aload_n 1, 1) := by decide +kernel
theorem dX3_mark_10 : decode cX3_mark 10 = .ok (.getfield 95, 3) := by decide +kernel
theorem dX3_mark_13 : decode cX3_mark 13 = .ok (.iconst 1, 1) := by decide +kernel
theorem dX3_mark_14 : decode cX3_mark 14 = .ok (.invokevirtual 242, 3) := by decide +kernel
theorem dX3_mark_17 : decode cX3_mark 17 = .ok (.ifCond .eq 34, 3) := by decide +kernel
theorem dX3_mark_20 : decode cX3_mark 20 = .ok (.aload_n 0, 1) := by decide +kernel
theorem dX3_mark_21 : decode cX3_mark 21 = .ok (.dup, 1) := by decide +kernel
theorem dX3_mark_22 : decode cX3_mark 22 = .ok (.getfield 29, 3) := by decide +kernel
theorem dX3_mark_25 : decode cX3_mark 25 = .ok (.iconst 1, 1) := by decide +kernel
theorem dX3_mark_26 : decode cX3_mark 26 = .ok (.isub, 1) := by decide +kernel
theorem dX3_mark_27 : decode cX3_mark 27 = .ok (.putfield 29, 3) := by decide +kernel
theorem dX3_mark_30 : decode cX3_mark 30 = .ok (.aload_n 1, 1) := by decide +kernel
theorem dX3_mark_31 : decode cX3_mark 31 = .ok (.aload_n 0, 1) := by decide +kernel
theorem dX3_mark_32 : decode cX3_mark 32 = .ok (.aload_n 1, 1) := by decide +kernel
theorem dX3_mark_33 : decode cX3_mark 33 = .ok (.getfield 92, 3) := by decide +kernel
theorem dX3_mark_36 : decode cX3_mark 36 = .ok (.invokevirtual 235, 3) := by decide +kernel
theorem dX3_mark_39 : decode cX3_mark 39 = .ok (.putfield 269, 3) := by decide +kernel
theorem dX3_mark_42 : decode cX3_mark 42 = .ok (.aload_n 1, 1) := by decide +kernel
theorem dX3_mark_43 : decode cX3_mark 43 = .ok (.bipush 11, 2) := by decide +kernel
theorem dX3_mark_45 : decode cX3_mark 45 = .ok (.putfield 50, 3) := by decide +kernel
theorem dX3_mark_48 : decode cX3_mark 48 = .ok (.goto 8, 3) := by decide +kernel
theorem dX3_mark_51 : decode cX3_mark 51 = .ok (.aload_n 1, 1) := by decide +kernel
theorem dX3_mark_52 : decode cX3_mark 52 = .ok (.iconst 3, 1) := by decide +kernel
theorem dX3_mark_53 : decode cX3_mark 53 = .ok (.putfield 50, 3) := by decide +kernel
theorem dX3_mark_56 : decode cX3_mark 56 = .ok (.return_, 1) := by decide +kernel
theorem dX3_unlinkRemoved_0 : decode cX3_unlinkRemoved 0 = .ok (.aload_n 0, 1) := by decide +kernel
theorem dX3_unlinkRemoved_1 : decode cX3_unlinkRemoved 1 = .ok (.aload_n 1, 1) := by decide +kernel
theorem dX3_unlinkRemoved_2 : decode cX3_unlinkRemoved 2 = .ok (.getfield 89, 3) := by decide +kernel
theorem dX3_unlinkRemoved_5 : decode cX3_unlinkRemoved 5 = .ok (.aload_n 1, 1) := by decide +kernel
theorem dX3_unlinkRemoved_6 : decode cX3_unlinkRemoved 6 = .ok (.getfield 92, 3) := by decide +kernel
theorem dX3_unlinkRemoved_9 : decode cX3_unlinkRemoved 9 = .ok (.aload_n 1, 1) := by decide +kernel
theorem dX3_unlinkRemoved_10 : decode cX3_unlinkRemoved 10 = .ok (.getfield 95, 3) := by decide +kernel
theorem dX3_unlinkRemoved_13 : decode cX3_unlinkRemoved 13 = .ok (.iconst 0, 1) := by decide +kernel
theorem dX3_unlinkRemoved_14 : decode cX3_unlinkRemoved 14 = .ok (.invokevirtual 242, 3) := by decide +kernel
theorem dX3_unlinkRemoved_17 : decode cX3_unlinkRemoved 17 = .ok (.ifCond .eq 21, 3) := by decide +kernel
theorem dX3_unlinkRemoved_20 : decode cX3_unlinkRemoved 20 = .ok (.aload_n 0, 1) := by decide +kernel
theorem dX3_unlinkRemoved_21 : decode cX3_unlinkRemoved 21 = .ok (.aload_n 1, 1) := by decide +kernel
theorem dX3_unlinkRemoved_22 : decode cX3_unlinkRemoved 22 = .ok (.aload_n 1, 1) := by decide +kernel
theorem dX3_unlinkRemoved_23 : decode cX3_unlinkRemoved 23 = .ok (.getfield 92, 3) := by decide +kernel
theorem dX3_unlinkRemoved_26 : decode cX3_unlinkRemoved 26 = .ok (.invokevirtual 246, 3) := by decide +kernel
theorem dX3_unlinkRemoved_29 : decode cX3_unlinkRemoved 29 = .ok (.aload_n 1, 1) := by decide +kernel
theorem dX3_unlinkRemoved_30 : decode cX3_unlinkRemoved 30 = .ok (.bipush 12, 2) := by decide +kernel
theorem dX3_unlinkRemoved_32 : decode cX3_unlinkRemoved 32 = .ok (.putfield 50, 3) := by decide +kernel
theorem dX3_unlinkRemoved_35 : decode cX3_unlinkRemoved 35 = .ok (.goto 13, 3) := by decide +kernel
theorem dX3_unlinkRemoved_38 : decode cX3_unlinkRemoved 38 = .ok (.aload_n 1, 1) := by decide +kernel
theorem dX3_unlinkRemoved_39 : decode cX3_unlinkRemoved 39 = .ok (.iconst 1, 1) := by decide +kernel
theorem dX3_unlinkRemoved_40 : decode cX3_unlinkRemoved 40 = .ok (.putfield 229, 3) := by decide +kernel
theorem dX3_unlinkRemoved_43 : decode cX3_unlinkRemoved 43 = .ok (.aload_n 1, 1) := by decide +kernel
theorem dX3_unlinkRemoved_44 : decode cX3_unlinkRemoved 44 = .ok (.iconst 3, 1) := by decide +kernel
theorem dX3_unlinkRemoved_45 : decode cX3_unlinkRemoved 45 = .ok (.putfield 50, 3) := by decide +kernel
theorem dX3_unlinkRemoved_48 : decode cX3_unlinkRemoved 48 = .ok (.return_, 1) := by decide +kernel
theorem dX3_giveBack_0 : decode cX3_giveBack 0 = .ok (.iconst 0, 1) := by decide +kernel
theorem dX3_giveBack_1 : decode cX3_giveBack 1 = .ok (.istore_n 2, 1) := by decide +kernel
theorem dX3_giveBack_2 : decode cX3_giveBack 2 = .ok (.iconst 0, 1) := by decide +kernel
theorem dX3_giveBack_3 : decode cX3_giveBack 3 = .ok (.istore_n 3, 1) := by decide +kernel
theorem dX3_giveBack_4 : decode cX3_giveBack 4 = .ok (.iload_n 3, 1) := by decide +kernel
theorem dX3_giveBack_5 : decode cX3_giveBack 5 = .ok (.aload_n 1, 1) := by decide +kernel
theorem dX3_giveBack_6 : decode cX3_giveBack 6 = .ok (.getfield 77, 3) := by decide +kernel
theorem dX3_giveBack_9 : decode cX3_giveBack 9 = .ok (.getfield 81, 3) := by decide +kernel
theorem dX3_giveBack_12 : decode cX3_giveBack 12 = .ok (.if_icmp .ge 71, 3) := by decide +kernel
theorem dX3_giveBack_15 : decode cX3_giveBack 15 = .ok (.aload_n 1, 1) := by decide +kernel
theorem dX3_giveBack_16 : decode cX3_giveBack 16 = .ok (.getfield 77, 3) := by decide +kernel
theorem dX3_giveBack_19 : decode cX3_giveBack 19 = .ok (.iload_n 3, 1) := by decide +kernel
theorem dX3_giveBack_20 : decode cX3_giveBack 20 = .ok (.invokevirtual 272, 3) := by decide +kernel
theorem dX3_giveBack_23 : decode cX3_giveBack 23 = .ok (.istore 4, 2) := by decide +kernel
theorem dX3_giveBack_25 : decode cX3_giveBack 25 = .ok (.iload 4, 2) := by decide +kernel
theorem dX3_giveBack_27 : decode cX3_giveBack 27 = .ok (.invokestatic 103, 3) := by decide +kernel
theorem dX3_giveBack_30 : decode cX3_giveBack 30 = .ok (.ifCond .ne 6, 3) := by decide +kernel
theorem dX3_giveBack_33 : decode cX3_giveBack 33 = .ok (.goto 44, 3) := by decide +kernel
theorem dX3_giveBack_36 : decode cX3_giveBack 36 = .ok (.aload_n 0, 1) := by decide +kernel
theorem dX3_giveBack_37 : decode cX3_giveBack 37 = .ok (.aload_n 0, 1) := by decide +kernel
theorem dX3_giveBack_38 : decode cX3_giveBack 38 = .ok (.getfield 11, 3) := by decide +kernel
theorem dX3_giveBack_41 : decode cX3_giveBack 41 = .ok (.iload 4, 2) := by decide +kernel
theorem dX3_giveBack_43 : decode cX3_giveBack 43 = .ok (.aaload, 1) := by decide +kernel
theorem dX3_giveBack_44 : decode cX3_giveBack 44 = .ok (.invokevirtual 275, 3) := by decide +kernel
theorem dX3_giveBack_47 : decode cX3_giveBack 47 = .ok (.ifCond .eq 19, 3) := by decide +kernel
theorem dX3_giveBack_50 : decode cX3_giveBack 50 = .ok (.aload_n 1, 1) := by decide +kernel
theorem dX3_giveBack_51 : decode cX3_giveBack 51 = .ok (.getfield 77, 3) := by decide +kernel
theorem dX3_giveBack_54 : decode cX3_giveBack 54 = .ok (.iload_n 2, 1) := by decide +kernel
theorem dX3_giveBack_55 : decode cX3_giveBack 55 = .ok (.iload 4, 2) := by decide +kernel
theorem dX3_giveBack_57 : decode cX3_giveBack 57 = .ok (.invokevirtual 279, 3) := by decide +kernel
theorem dX3_giveBack_60 : decode cX3_giveBack 60 = .ok (.iinc 2 1, 3) := by decide +kernel
theorem dX3_giveBack_63 : decode cX3_giveBack 63 = .ok (.goto 14, 3) := by decide +kernel
theorem dX3_giveBack_66 : decode cX3_giveBack 66 = .ok (.aload_n 0, 1) := by decide +kernel
theorem dX3_giveBack_67 : decode cX3_giveBack 67 = .ok (.getfield 11, 3) := by decide +kernel
theorem dX3_giveBack_70 : decode cX3_giveBack 70 = .ok (.iload 4, 2) := by decide +kernel
theorem dX3_giveBack_72 : decode cX3_giveBack 72 = .ok (.aaload, 1) := by decide +kernel
theorem dX3_giveBack_73 : decode cX3_giveBack 73 = .ok (.iconst 0, 1) := by decide +kernel
theorem dX3_giveBack_74 : decode cX3_giveBack 74 = .ok (.putfield 108, 3) := by decide +kernel
theorem dX3_giveBack_77 : decode cX3_giveBack 77 = .ok (.iinc 3 1, 3) := by decide +kernel
theorem dX3_giveBack_80 : decode cX3_giveBack 80 = .ok (.goto (-76), 3) := by decide +kernel
theorem dX3_giveBack_83 : decode cX3_giveBack 83 = .ok (.aload_n 1, 1) := by decide +kernel
theorem dX3_giveBack_84 : decode cX3_giveBack 84 = .ok (.getfield 77, 3) := by decide +kernel
theorem dX3_giveBack_87 : decode cX3_giveBack 87 = .ok (.iload_n 2, 1) := by decide +kernel
theorem dX3_giveBack_88 : decode cX3_giveBack 88 = .ok (.invokevirtual 187, 3) := by decide +kernel
theorem dX3_giveBack_91 : decode cX3_giveBack 91 = .ok (.aload_n 0, 1) := by decide +kernel
theorem dX3_giveBack_92 : decode cX3_giveBack 92 = .ok (.aload_n 1, 1) := by decide +kernel
theorem dX3_giveBack_93 : decode cX3_giveBack 93 = .ok (.aload_n 1, 1) := by decide +kernel
theorem dX3_giveBack_94 : decode cX3_giveBack 94 = .ok (.getfield 269, 3) := by decide +kernel
theorem dX3_giveBack_97 : decode cX3_giveBack 97 = .ok (.invokevirtual 238, 3) := by decide +kernel
theorem dX3_giveBack_100 : decode cX3_giveBack 100 = .ok (.return_, 1) := by decide +kernel
theorem dX3_grow_0 : decode cX3_grow 0 = .ok (.aload_n 0, 1) := by decide +kernel
theorem dX3_grow_1 : decode cX3_grow 1 = .ok (.getfield 29, 3) := by decide +kernel
theorem dX3_grow_4 : decode cX3_grow 4 = .ok (.iconst 2, 1) := by decide +kernel
theorem dX3_grow_5 : decode cX3_grow 5 = .ok (.aload_n 0, 1) := by decide +kernel
theorem dX3_grow_6 : decode cX3_grow 6 = .ok (.getfield 25, 3) := by decide +kernel
theorem dX3_grow_9 : decode cX3_grow 9 = .ok (.imul, 1) := by decide +kernel
theorem dX3_grow_10 : decode cX3_grow 10 = .ok (.if_icmp .le 22, 3) := by decide +kernel
theorem dX3_grow_13 : decode cX3_grow 13 = .ok (.aload_n 0, 1) := by decide +kernel
theorem dX3_grow_14 : decode cX3_grow 14 = .ok (.getfield 25, 3) := by decide +kernel
theorem dX3_grow_17 : decode cX3_grow 17 = .ok (.bipush 16, 2) := by decide +kernel
theorem dX3_grow_19 : decode cX3_grow 19 = .ok (.if_icmp .ge 13, 3) := by decide +kernel
theorem dX3_grow_22 : decode cX3_grow 22 = .ok (.aload_n 0, 1) := by decide +kernel
theorem dX3_grow_23 : decode cX3_grow 23 = .ok (.iconst 2, 1) := by decide +kernel
theorem dX3_grow_24 : decode cX3_grow 24 = .ok (.aload_n 0, 1) := by decide +kernel
theorem dX3_grow_25 : decode cX3_grow 25 = .ok (.getfield 25, 3) := by decide +kernel
theorem dX3_grow_28 : decode cX3_grow 28 = .ok (.imul, 1) := by decide +kernel
theorem dX3_grow_29 : decode cX3_grow 29 = .ok (.putfield 25, 3) := by decide +kernel
theorem dX3_grow_32 : decode cX3_grow 32 = .ok (.aload_n 0, 1) := by decide +kernel
theorem dX3_grow_33 : decode cX3_grow 33 = .ok (.aload_n 1, 1) := by decide +kernel
theorem dX3_grow_34 : decode cX3_grow 34 = .ok (.iconst 1, 1) := by decide +kernel
theorem dX3_grow_35 : decode cX3_grow 35 = .ok (.invokevirtual 238, 3) := by decide +kernel
theorem dX3_grow_38 : decode cX3_grow 38 = .ok (.return_, 1) := by decide +kernel
theorem dX3_end_0 : decode cX3_end 0 = .ok (.aload_n 0, 1) := by decide +kernel
theorem dX3_end_1 : decode cX3_end 1 = .ok (.aload_n 1, 1) := by decide +kernel
theorem dX3_end_2 : decode cX3_end 2 = .ok (.invokevirtual 256, 3) := by decide +kernel
theorem dX3_end_5 : decode cX3_end 5 = .ok (.aload_n 1, 1) := by decide +kernel
theorem dX3_end_6 : decode cX3_end 6 = .ok (.iload_n 2, 1) := by decide +kernel
theorem dX3_end_7 : decode cX3_end 7 = .ok (.invokevirtual 283, 3) := by decide +kernel
theorem dX3_end_10 : decode cX3_end 10 = .ok (.return_, 1) := by decide +kernel
theorem dX3_mayLoad_0 : decode cX3_mayLoad 0 = .ok (.aload_n 1, 1) := by decide +kernel
theorem dX3_mayLoad_1 : decode cX3_mayLoad 1 = .ok (.getfield 74, 3) := by decide +kernel
theorem dX3_mayLoad_4 : decode cX3_mayLoad 4 = .ok (.aload_n 0, 1) := by decide +kernel
theorem dX3_mayLoad_5 : decode cX3_mayLoad 5 = .ok (.getfield 32, 3) := by decide +kernel
theorem dX3_mayLoad_8 : decode cX3_mayLoad 8 = .ok (.if_icmp .ne 5, 3) := by decide +kernel
theorem dX3_mayLoad_11 : decode cX3_mayLoad 11 = .ok (.iconst 1, 1) := by decide +kernel
theorem dX3_mayLoad_12 : decode cX3_mayLoad 12 = .ok (.ireturn, 1) := by decide +kernel
theorem dX3_mayLoad_13 : decode cX3_mayLoad 13 = .ok (.aload_n 1, 1) := by decide +kernel
theorem dX3_mayLoad_14 : decode cX3_mayLoad 14 = .ok (.aload_n 0, 1) := by decide +kernel
theorem dX3_mayLoad_15 : decode cX3_mayLoad 15 = .ok (.getfield 32, 3) := by decide +kernel
theorem dX3_mayLoad_18 : decode cX3_mayLoad 18 = .ok (.putfield 74, 3) := by decide +kernel
theorem dX3_mayLoad_21 : decode cX3_mayLoad 21 = .ok (.iconst 0, 1) := by decide +kernel
theorem dX3_mayLoad_22 : decode cX3_mayLoad 22 = .ok (.ireturn, 1) := by decide +kernel
theorem dX3_leadsTo_0 : decode cX3_leadsTo 0 = .ok (.iload_n 1, 1) := by decide +kernel
theorem dX3_leadsTo_1 : decode cX3_leadsTo 1 = .ok (.invokestatic 103, 3) := by decide +kernel
theorem dX3_leadsTo_4 : decode cX3_leadsTo 4 = .ok (.ifCond .eq 32, 3) := by decide +kernel
theorem dX3_leadsTo_7 : decode cX3_leadsTo 7 = .ok (.aload_n 0, 1) := by decide +kernel
theorem dX3_leadsTo_8 : decode cX3_leadsTo 8 = .ok (.getfield 11, 3) := by decide +kernel
theorem dX3_leadsTo_11 : decode cX3_leadsTo 11 = .ok (.iload_n 1, 1) := by decide +kernel
theorem dX3_leadsTo_12 : decode cX3_leadsTo 12 = .ok (.aaload, 1) := by decide +kernel
theorem dX3_leadsTo_13 : decode cX3_leadsTo 13 = .ok (.getfield 114, 3) := by decide +kernel
theorem dX3_leadsTo_16 : decode cX3_leadsTo 16 = .ok (.iload_n 2, 1) := by decide +kernel
theorem dX3_leadsTo_17 : decode cX3_leadsTo 17 = .ok (.if_icmp .ne 19, 3) := by decide +kernel
theorem dX3_leadsTo_20 : decode cX3_leadsTo 20 = .ok (.aload_n 0, 1) := by decide +kernel
theorem dX3_leadsTo_21 : decode cX3_leadsTo 21 = .ok (.getfield 11, 3) := by decide +kernel
theorem dX3_leadsTo_24 : decode cX3_leadsTo 24 = .ok (.iload_n 1, 1) := by decide +kernel
theorem dX3_leadsTo_25 : decode cX3_leadsTo 25 = .ok (.aaload, 1) := by decide +kernel
theorem dX3_leadsTo_26 : decode cX3_leadsTo 26 = .ok (.getfield 117, 3) := by decide +kernel
theorem dX3_leadsTo_29 : decode cX3_leadsTo 29 = .ok (.ifCond .ne 7, 3) := by decide +kernel
theorem dX3_leadsTo_32 : decode cX3_leadsTo 32 = .ok (.iconst 1, 1) := by decide +kernel
theorem dX3_leadsTo_33 : decode cX3_leadsTo 33 = .ok (.goto 4, 3) := by decide +kernel
theorem dX3_leadsTo_36 : decode cX3_leadsTo 36 = .ok (.iconst 0, 1) := by decide +kernel
theorem dX3_leadsTo_37 : decode cX3_leadsTo 37 = .ok (.ireturn, 1) := by decide +kernel
theorem dX3_change_0 : decode cX3_change 0 = .ok (.aload_n 0, 1) := by decide +kernel
theorem dX3_change_1 : decode cX3_change 1 = .ok (.iload_n 1, 1) := by decide +kernel
theorem dX3_change_2 : decode cX3_change 2 = .ok (.iload_n 2, 1) := by decide +kernel
theorem dX3_change_3 : decode cX3_change 3 = .ok (.invokevirtual 214, 3) := by decide +kernel
theorem dX3_change_6 : decode cX3_change 6 = .ok (.ifCond .ne 5, 3) := by decide +kernel
theorem dX3_change_9 : decode cX3_change 9 = .ok (.iconst 0, 1) := by decide +kernel
theorem dX3_change_10 : decode cX3_change 10 = .ok (.ireturn, 1) := by decide +kernel
theorem dX3_change_11 : decode cX3_change 11 = .ok (.aload_n 0, 1) := by decide +kernel
theorem dX3_change_12 : decode cX3_change 12 = .ok (.getfield 11, 3) := by decide +kernel
theorem dX3_change_15 : decode cX3_change 15 = .ok (.iload_n 1, 1) := by decide +kernel
theorem dX3_change_16 : decode cX3_change 16 = .ok (.aaload, 1) := by decide +kernel
theorem dX3_change_17 : decode cX3_change 17 = .ok (.iload_n 3, 1) := by decide +kernel
theorem dX3_change_18 : decode cX3_change 18 = .ok (.iload 4, 2) := by decide +kernel
theorem dX3_change_20 : decode cX3_change 20 = .ok (.invokevirtual 252, 3) := by decide +kernel
theorem dX3_change_23 : decode cX3_change 23 = .ok (.iconst 1, 1) := by decide +kernel
theorem dX3_change_24 : decode cX3_change 24 = .ok (.ireturn, 1) := by decide +kernel
theorem dX3_retire_0 : decode cX3_retire 0 = .ok (.iload_n 2, 1) := by decide +kernel
theorem dX3_retire_1 : decode cX3_retire 1 = .ok (.invokestatic 103, 3) := by decide +kernel
theorem dX3_retire_4 : decode cX3_retire 4 = .ok (.ifCond .ne 4, 3) := by decide +kernel
theorem dX3_retire_7 : decode cX3_retire 7 = .ok (.return_, 1) := by decide +kernel
theorem dX3_retire_8 : decode cX3_retire 8 = .ok (.aload_n 0, 1) := by decide +kernel
theorem dX3_retire_9 : decode cX3_retire 9 = .ok (.getfield 11, 3) := by decide +kernel
theorem dX3_retire_12 : decode cX3_retire 12 = .ok (.iload_n 2, 1) := by decide +kernel
theorem dX3_retire_13 : decode cX3_retire 13 = .ok (.aaload, 1) := by decide +kernel
theorem dX3_retire_14 : decode cX3_retire 14 = .ok (.iconst 2, 1) := by decide +kernel
theorem dX3_retire_15 : decode cX3_retire 15 = .ok (.putfield 108, 3) := by decide +kernel
theorem dX3_retire_18 : decode cX3_retire 18 = .ok (.aload_n 0, 1) := by decide +kernel
theorem dX3_retire_19 : decode cX3_retire 19 = .ok (.getfield 11, 3) := by decide +kernel
theorem dX3_retire_22 : decode cX3_retire 22 = .ok (.iload_n 2, 1) := by decide +kernel
theorem dX3_retire_23 : decode cX3_retire 23 = .ok (.aaload, 1) := by decide +kernel
theorem dX3_retire_24 : decode cX3_retire 24 = .ok (.aload_n 0, 1) := by decide +kernel
theorem dX3_retire_25 : decode cX3_retire 25 = .ok (.getfield 32, 3) := by decide +kernel
theorem dX3_retire_28 : decode cX3_retire 28 = .ok (.putfield 130, 3) := by decide +kernel
theorem dX3_retire_31 : decode cX3_retire 31 = .ok (.aload_n 0, 1) := by decide +kernel
theorem dX3_retire_32 : decode cX3_retire 32 = .ok (.dup, 1) := by decide +kernel
theorem dX3_retire_33 : decode cX3_retire 33 = .ok (.getfield 32, 3) := by decide +kernel
theorem dX3_retire_36 : decode cX3_retire 36 = .ok (.iconst 1, 1) := by decide +kernel
theorem dX3_retire_37 : decode cX3_retire 37 = .ok (.iadd, 1) := by decide +kernel
theorem dX3_retire_38 : decode cX3_retire 38 = .ok (.putfield 32, 3) := by decide +kernel
theorem dX3_retire_41 : decode cX3_retire 41 = .ok (.aload_n 1, 1) := by decide +kernel
theorem dX3_retire_42 : decode cX3_retire 42 = .ok (.getfield 77, 3) := by decide +kernel
theorem dX3_retire_45 : decode cX3_retire 45 = .ok (.iload_n 2, 1) := by decide +kernel
theorem dX3_retire_46 : decode cX3_retire 46 = .ok (.invokevirtual 194, 3) := by decide +kernel
theorem dX3_retire_49 : decode cX3_retire 49 = .ok (.return_, 1) := by decide +kernel
theorem dX3_takeFreeNode_0 : decode cX3_takeFreeNode 0 = .ok (.aload_n 1, 1) := by decide +kernel
theorem dX3_takeFreeNode_1 : decode cX3_takeFreeNode 1 = .ok (.getfield 86, 3) := by decide +kernel
theorem dX3_takeFreeNode_4 : decode cX3_takeFreeNode 4 = .ok (.invokevirtual 222, 3) := by decide +kernel
theorem dX3_takeFreeNode_7 : decode cX3_takeFreeNode 7 = .ok (.istore_n 2, 1) := by decide +kernel
theorem dX3_takeFreeNode_8 : decode cX3_takeFreeNode 8 = .ok (.iconst 0, 1) := by decide +kernel
theorem dX3_takeFreeNode_9 : decode cX3_takeFreeNode 9 = .ok (.istore_n 3, 1) := by decide +kernel
theorem dX3_takeFreeNode_10 : decode cX3_takeFreeNode 10 = .ok (.iload_n 3, 1) := by decide +kernel
theorem dX3_takeFreeNode_11 : decode cX3_takeFreeNode 11 = .ok (.bipush 64, 2) := by decide +kernel
theorem dX3_takeFreeNode_13 : decode cX3_takeFreeNode 13 = .ok (.if_icmp .ge 64, 3) := by decide +kernel
theorem dX3_takeFreeNode_16 : decode cX3_takeFreeNode 16 = .ok (.aload_n 0, 1) := by decide +kernel
theorem dX3_takeFreeNode_17 : decode cX3_takeFreeNode 17 = .ok (.getfield 11, 3) := by decide +kernel
theorem dX3_takeFreeNode_20 : decode cX3_takeFreeNode 20 = .ok (.iload_n 3, 1) := by decide +kernel
theorem dX3_takeFreeNode_21 : decode cX3_takeFreeNode 21 = .ok (.aaload, 1) := by decide +kernel
theorem dX3_takeFreeNode_22 : decode cX3_takeFreeNode 22 = .ok (.getfield 108, 3) := by decide +kernel
theorem dX3_takeFreeNode_25 : decode cX3_takeFreeNode 25 = .ok (.ifCond .ne 46, 3) := by decide +kernel
theorem dX3_takeFreeNode_28 : decode cX3_takeFreeNode 28 = .ok (.aload_n 0, 1) := by decide +kernel
theorem dX3_takeFreeNode_29 : decode cX3_takeFreeNode 29 = .ok (.getfield 11, 3) := by decide +kernel
theorem dX3_takeFreeNode_32 : decode cX3_takeFreeNode 32 = .ok (.iload_n 3, 1) := by decide +kernel
theorem dX3_takeFreeNode_33 : decode cX3_takeFreeNode 33 = .ok (.aaload, 1) := by decide +kernel
theorem dX3_takeFreeNode_34 : decode cX3_takeFreeNode 34 = .ok (.aload_n 1, 1) := by decide +kernel
theorem dX3_takeFreeNode_35 : decode cX3_takeFreeNode 35 = .ok (.invokestatic 218, 3) := by decide +kernel
theorem dX3_takeFreeNode_38 : decode cX3_takeFreeNode 38 = .ok (.iload_n 2, 1) := by decide +kernel
theorem dX3_takeFreeNode_39 : decode cX3_takeFreeNode 39 = .ok (.ifCond .eq 10, 3) := by decide +kernel
theorem dX3_takeFreeNode_42 : decode cX3_takeFreeNode 42 = .ok (.aload_n 1, 1) := by decide +kernel
theorem dX3_takeFreeNode_43 : decode cX3_takeFreeNode 43 = .ok (.getfield 180, 3) := by decide +kernel
theorem dX3_takeFreeNode_46 : decode cX3_takeFreeNode 46 = .ok (.goto 4, 3) := by decide +kernel
theorem dX3_takeFreeNode_49 : decode cX3_takeFreeNode 49 = .ok (.iconst (-1), 1) := by decide +kernel
theorem dX3_takeFreeNode_50 : decode cX3_takeFreeNode 50 = .ok (.iload_n 2, 1) := by decide +kernel
theorem dX3_takeFreeNode_51 : decode cX3_takeFreeNode 51 = .ok (.ifCond .eq 10, 3) := by decide +kernel
theorem dX3_takeFreeNode_54 : decode cX3_takeFreeNode 54 = .ok (.aload_n 1, 1) := by decide +kernel
theorem dX3_takeFreeNode_55 : decode cX3_takeFreeNode 55 = .ok (.getfield 286, 3) := by decide +kernel
theorem dX3_takeFreeNode_58 : decode cX3_takeFreeNode 58 = .ok (.goto 4, 3) := by decide +kernel
theorem dX3_takeFreeNode_61 : decode cX3_takeFreeNode 61 = .ok (.iconst 0, 1) := by decide +kernel
theorem dX3_takeFreeNode_62 : decode cX3_takeFreeNode 62 = .ok (.aload_n 0, 1) := by decide +kernel
theorem dX3_takeFreeNode_63 : decode cX3_takeFreeNode 63 = .ok (.getfield 32, 3) := by decide +kernel
theorem dX3_takeFreeNode_66 : decode cX3_takeFreeNode 66 = .ok (.invokevirtual 41, 3) := by decide +kernel
theorem dX3_takeFreeNode_69 : decode cX3_takeFreeNode 69 = .ok (.iload_n 3, 1) := by decide +kernel
theorem dX3_takeFreeNode_70 : decode cX3_takeFreeNode 70 = .ok (.ireturn, 1) := by decide +kernel
theorem dX3_takeFreeNode_71 : decode cX3_takeFreeNode 71 = .ok (.iinc 3 1, 3) := by decide +kernel
theorem dX3_takeFreeNode_74 : decode cX3_takeFreeNode 74 = .ok (.goto (-64), 3) := by decide +kernel
theorem dX3_takeFreeNode_77 : decode cX3_takeFreeNode 77 = .ok (.iconst (-1), 1) := by decide +kernel
theorem dX3_takeFreeNode_78 : decode cX3_takeFreeNode 78 = .ok (.ireturn, 1) := by decide +kernel
theorem dX3_freeOwn_0 : decode cX3_freeOwn 0 = .ok (.aload_n 1, 1) := by decide +kernel
theorem dX3_freeOwn_1 : decode cX3_freeOwn 1 = .ok (.getfield 98, 3) := by decide +kernel
theorem dX3_freeOwn_4 : decode cX3_freeOwn 4 = .ok (.invokestatic 103, 3) := by decide +kernel
theorem dX3_freeOwn_7 : decode cX3_freeOwn 7 = .ok (.ifCond .eq 16, 3) := by decide +kernel
theorem dX3_freeOwn_10 : decode cX3_freeOwn 10 = .ok (.aload_n 0, 1) := by decide +kernel
theorem dX3_freeOwn_11 : decode cX3_freeOwn 11 = .ok (.getfield 11, 3) := by decide +kernel
theorem dX3_freeOwn_14 : decode cX3_freeOwn 14 = .ok (.aload_n 1, 1) := by decide +kernel
theorem dX3_freeOwn_15 : decode cX3_freeOwn 15 = .ok (.getfield 98, 3) := by decide +kernel
theorem dX3_freeOwn_18 : decode cX3_freeOwn 18 = .ok (.aaload, 1) := by decide +kernel
theorem dX3_freeOwn_19 : decode cX3_freeOwn 19 = .ok (.iconst 0, 1) := by decide +kernel
theorem dX3_freeOwn_20 : decode cX3_freeOwn 20 = .ok (.putfield 108, 3) := by decide +kernel
theorem dX3_freeOwn_23 : decode cX3_freeOwn 23 = .ok (.aload_n 1, 1) := by decide +kernel
theorem dX3_freeOwn_24 : decode cX3_freeOwn 24 = .ok (.iconst (-1), 1) := by decide +kernel
theorem dX3_freeOwn_25 : decode cX3_freeOwn 25 = .ok (.putfield 98, 3) := by decide +kernel
theorem dX3_freeOwn_28 : decode cX3_freeOwn 28 = .ok (.return_, 1) := by decide +kernel
theorem dX3_canBeReached_0 : decode cX3_canBeReached 0 = .ok (.iconst 0, 1) := by decide +kernel
theorem dX3_canBeReached_1 : decode cX3_canBeReached 1 = .ok (.istore_n 2, 1) := by decide +kernel
theorem dX3_canBeReached_2 : decode cX3_canBeReached 2 = .ok (.iload_n 2, 1) := by decide +kernel
theorem dX3_canBeReached_3 : decode cX3_canBeReached 3 = .ok (.iconst 4, 1) := by decide +kernel
theorem dX3_canBeReached_4 : decode cX3_canBeReached 4 = .ok (.if_icmp .ge 47, 3) := by decide +kernel
theorem dX3_canBeReached_7 : decode cX3_canBeReached 7 = .ok (.aload_n 0, 1) := by decide +kernel
theorem dX3_canBeReached_8 : decode cX3_canBeReached 8 = .ok (.getfield 17, 3) := by decide +kernel
theorem dX3_canBeReached_11 : decode cX3_canBeReached 11 = .ok (.iload_n 2, 1) := by decide +kernel
theorem dX3_canBeReached_12 : decode cX3_canBeReached 12 = .ok (.aaload, 1) := by decide +kernel
theorem dX3_canBeReached_13 : decode cX3_canBeReached 13 = .ok (.astore_n 3, 1) := by decide +kernel
theorem dX3_canBeReached_14 : decode cX3_canBeReached 14 = .ok (.aload_n 3, 1) := by decide +kernel
theorem dX3_canBeReached_15 : decode cX3_canBeReached 15 = .ok (.getfield 50, 3) := by decide +kernel
theorem dX3_canBeReached_18 : decode cX3_canBeReached 18 = .ok (.ifCond .eq 27, 3) := by decide +kernel
theorem dX3_canBeReached_21 : decode cX3_canBeReached 21 = .ok (.aload_n 3, 1) := by decide +kernel
theorem dX3_canBeReached_22 : decode cX3_canBeReached 22 = .ok (.getfield 71, 3) := by decide +kernel
theorem dX3_canBeReached_25 : decode cX3_canBeReached 25 = .ok (.aload_n 1, 1) := by decide +kernel
theorem dX3_canBeReached_26 : decode cX3_canBeReached 26 = .ok (.getfield 130, 3) := by decide +kernel
theorem dX3_canBeReached_29 : decode cX3_canBeReached 29 = .ok (.if_icmp .gt 16, 3) := by decide +kernel
theorem dX3_canBeReached_32 : decode cX3_canBeReached 32 = .ok (.aload_n 1, 1) := by decide +kernel
theorem dX3_canBeReached_33 : decode cX3_canBeReached 33 = .ok (.getfield 127, 3) := by decide +kernel
theorem dX3_canBeReached_36 : decode cX3_canBeReached 36 = .ok (.aload_n 3, 1) := by decide +kernel
theorem dX3_canBeReached_37 : decode cX3_canBeReached 37 = .ok (.getfield 74, 3) := by decide +kernel
theorem dX3_canBeReached_40 : decode cX3_canBeReached 40 = .ok (.if_icmp .gt 5, 3) := by decide +kernel
theorem dX3_canBeReached_43 : decode cX3_canBeReached 43 = .ok (.iconst 1, 1) := by decide +kernel
theorem dX3_canBeReached_44 : decode cX3_canBeReached 44 = .ok (.ireturn, 1) := by decide +kernel
theorem dX3_canBeReached_45 : decode cX3_canBeReached 45 = .ok (.iinc 2 1, 3) := by decide +kernel
theorem dX3_canBeReached_48 : decode cX3_canBeReached 48 = .ok (.goto (-46), 3) := by decide +kernel
theorem dX3_canBeReached_51 : decode cX3_canBeReached 51 = .ok (.iconst 0, 1) := by decide +kernel
theorem dX3_canBeReached_52 : decode cX3_canBeReached 52 = .ok (.ireturn, 1) := by decide +kernel
theorem dX3_countNodes_0 : decode cX3_countNodes 0 = .ok (.iconst 0, 1) := by decide +kernel
theorem dX3_countNodes_1 : decode cX3_countNodes 1 = .ok (.istore_n 2, 1) := by decide +kernel
theorem dX3_countNodes_2 : decode cX3_countNodes 2 = .ok (.iconst 0, 1) := by decide +kernel
theorem dX3_countNodes_3 : decode cX3_countNodes 3 = .ok (.istore_n 3, 1) := by decide +kernel
theorem dX3_countNodes_4 : decode cX3_countNodes 4 = .ok (.iload_n 3, 1) := by decide +kernel
theorem dX3_countNodes_5 : decode cX3_countNodes 5 = .ok (.bipush 64, 2) := by decide +kernel
theorem dX3_countNodes_7 : decode cX3_countNodes 7 = .ok (.if_icmp .ge 25, 3) := by decide +kernel
theorem dX3_countNodes_10 : decode cX3_countNodes 10 = .ok (.aload_n 0, 1) := by decide +kernel
theorem dX3_countNodes_11 : decode cX3_countNodes 11 = .ok (.getfield 11, 3) := by decide +kernel
theorem dX3_countNodes_14 : decode cX3_countNodes 14 = .ok (.iload_n 3, 1) := by decide +kernel
theorem dX3_countNodes_15 : decode cX3_countNodes 15 = .ok (.aaload, 1) := by decide +kernel
theorem dX3_countNodes_16 : decode cX3_countNodes 16 = .ok (.getfield 108, 3) := by decide +kernel
theorem dX3_countNodes_19 : decode cX3_countNodes 19 = .ok (.iload_n 1, 1) := by decide +kernel
theorem dX3_countNodes_20 : decode cX3_countNodes 20 = .ok (.if_icmp .ne 6, 3) := by decide +kernel
theorem dX3_countNodes_23 : decode cX3_countNodes 23 = .ok (.iinc 2 1, 3) := by decide +kernel
theorem dX3_countNodes_26 : decode cX3_countNodes 26 = .ok (.iinc 3 1, 3) := by decide +kernel
theorem dX3_countNodes_29 : decode cX3_countNodes 29 = .ok (.goto (-25), 3) := by decide +kernel
theorem dX3_countNodes_32 : decode cX3_countNodes 32 = .ok (.iload_n 2, 1) := by decide +kernel
theorem dX3_countNodes_33 : decode cX3_countNodes 33 = .ok (.ireturn, 1) := by decide +kernel
theorem dX3_nextOf_0 : decode cX3_nextOf 0 = .ok (.iload_n 1, 1) := by decide +kernel
theorem dX3_nextOf_1 : decode cX3_nextOf 1 = .ok (.invokestatic 103, 3) := by decide +kernel
theorem dX3_nextOf_4 : decode cX3_nextOf 4 = .ok (.ifCond .eq 15, 3) := by decide +kernel
theorem dX3_nextOf_7 : decode cX3_nextOf 7 = .ok (.aload_n 0, 1) := by decide +kernel
theorem dX3_nextOf_8 : decode cX3_nextOf 8 = .ok (.getfield 11, 3) := by decide +kernel
theorem dX3_nextOf_11 : decode cX3_nextOf 11 = .ok (.iload_n 1, 1) := by decide +kernel
theorem dX3_nextOf_12 : decode cX3_nextOf 12 = .ok (.aaload, 1) := by decide +kernel
theorem dX3_nextOf_13 : decode cX3_nextOf 13 = .ok (.getfield 114, 3) := by decide +kernel
theorem dX3_nextOf_16 : decode cX3_nextOf 16 = .ok (.goto 4, 3) := by decide +kernel
theorem dX3_nextOf_19 : decode cX3_nextOf 19 = .ok (.iconst (-1), 1) := by decide +kernel
theorem dX3_nextOf_20 : decode cX3_nextOf 20 = .ok (.ireturn, 1) := by decide +kernel
theorem dX3_valueOf_0 : decode cX3_valueOf 0 = .ok (.iload_n 1, 1) := by decide +kernel
theorem dX3_valueOf_1 : decode cX3_valueOf 1 = .ok (.invokestatic 103, 3) := by decide +kernel
theorem dX3_valueOf_4 : decode cX3_valueOf 4 = .ok (.ifCond .eq 15, 3) := by decide +kernel
theorem dX3_valueOf_7 : decode cX3_valueOf 7 = .ok (.aload_n 0, 1) := by decide +kernel
theorem dX3_valueOf_8 : decode cX3_valueOf 8 = .ok (.getfield 11, 3) := by decide +kernel
theorem dX3_valueOf_11 : decode cX3_valueOf 11 = .ok (.iload_n 1, 1) := by decide +kernel
theorem dX3_valueOf_12 : decode cX3_valueOf 12 = .ok (.aaload, 1) := by decide +kernel
theorem dX3_valueOf_13 : decode cX3_valueOf 13 = .ok (.getfield 124, 3) := by decide +kernel
theorem dX3_valueOf_16 : decode cX3_valueOf 16 = .ok (.goto 4, 3) := by decide +kernel
theorem dX3_valueOf_19 : decode cX3_valueOf 19 = .ok (.iconst (-1), 1) := by decide +kernel
theorem dX3_valueOf_20 : decode cX3_valueOf 20 = .ok (.ireturn, 1) := by decide +kernel
theorem dX3_nodeOfBucket_0 : decode cX3_nodeOfBucket 0 = .ok (.iload_n 1, 1) := by decide +kernel
theorem dX3_nodeOfBucket_1 : decode cX3_nodeOfBucket 1 = .ok (.invokestatic 263, 3) := by decide +kernel
theorem dX3_nodeOfBucket_4 : decode cX3_nodeOfBucket 4 = .ok (.ifCond .eq 12, 3) := by decide +kernel
theorem dX3_nodeOfBucket_7 : decode cX3_nodeOfBucket 7 = .ok (.aload_n 0, 1) := by decide +kernel
theorem dX3_nodeOfBucket_8 : decode cX3_nodeOfBucket 8 = .ok (.getfield 21, 3) := by decide +kernel
theorem dX3_nodeOfBucket_11 : decode cX3_nodeOfBucket 11 = .ok (.iload_n 1, 1) := by decide +kernel
theorem dX3_nodeOfBucket_12 : decode cX3_nodeOfBucket 12 = .ok (.iaload, 1) := by decide +kernel
theorem dX3_nodeOfBucket_13 : decode cX3_nodeOfBucket 13 = .ok (.goto 4, 3) := by decide +kernel
theorem dX3_nodeOfBucket_16 : decode cX3_nodeOfBucket 16 = .ok (.iconst (-1), 1) := by decide +kernel
theorem dX3_nodeOfBucket_17 : decode cX3_nodeOfBucket 17 = .ok (.ireturn, 1) := by decide +kernel
theorem dX3_isProcess_0 : decode cX3_isProcess 0 = .ok (.iload_n 0, 1) := by decide +kernel
theorem dX3_isProcess_1 : decode cX3_isProcess 1 = .ok (.ifCond .lt 12, 3) := by decide +kernel
theorem dX3_isProcess_4 : decode cX3_isProcess 4 = .ok (.iload_n 0, 1) := by decide +kernel
theorem dX3_isProcess_5 : decode cX3_isProcess 5 = .ok (.iconst 4, 1) := by decide +kernel
theorem dX3_isProcess_6 : decode cX3_isProcess 6 = .ok (.if_icmp .ge 7, 3) := by decide +kernel
theorem dX3_isProcess_9 : decode cX3_isProcess 9 = .ok (.iconst 1, 1) := by decide +kernel
theorem dX3_isProcess_10 : decode cX3_isProcess 10 = .ok (.goto 4, 3) := by decide +kernel
theorem dX3_isProcess_13 : decode cX3_isProcess 13 = .ok (.iconst 0, 1) := by decide +kernel
theorem dX3_isProcess_14 : decode cX3_isProcess 14 = .ok (.ireturn, 1) := by decide +kernel
theorem dX3_isNode_0 : decode cX3_isNode 0 = .ok (.iload_n 0, 1) := by decide +kernel
theorem dX3_isNode_1 : decode cX3_isNode 1 = .ok (.ifCond .lt 13, 3) := by decide +kernel
theorem dX3_isNode_4 : decode cX3_isNode 4 = .ok (.iload_n 0, 1) := by decide +kernel
theorem dX3_isNode_5 : decode cX3_isNode 5 = .ok (.bipush 64, 2) := by decide +kernel
theorem dX3_isNode_7 : decode cX3_isNode 7 = .ok (.if_icmp .ge 7, 3) := by decide +kernel
theorem dX3_isNode_10 : decode cX3_isNode 10 = .ok (.iconst 1, 1) := by decide +kernel
theorem dX3_isNode_11 : decode cX3_isNode 11 = .ok (.goto 4, 3) := by decide +kernel
theorem dX3_isNode_14 : decode cX3_isNode 14 = .ok (.iconst 0, 1) := by decide +kernel
theorem dX3_isNode_15 : decode cX3_isNode 15 = .ok (.ireturn, 1) := by decide +kernel
theorem dX3_isBucket_0 : decode cX3_isBucket 0 = .ok (.iload_n 0, 1) := by decide +kernel
theorem dX3_isBucket_1 : decode cX3_isBucket 1 = .ok (.ifCond .lt 13, 3) := by decide +kernel
theorem dX3_isBucket_4 : decode cX3_isBucket 4 = .ok (.iload_n 0, 1) := by decide +kernel
theorem dX3_isBucket_5 : decode cX3_isBucket 5 = .ok (.bipush 16, 2) := by decide +kernel
theorem dX3_isBucket_7 : decode cX3_isBucket 7 = .ok (.if_icmp .ge 7, 3) := by decide +kernel
theorem dX3_isBucket_10 : decode cX3_isBucket 10 = .ok (.iconst 1, 1) := by decide +kernel
theorem dX3_isBucket_11 : decode cX3_isBucket 11 = .ok (.goto 4, 3) := by decide +kernel
theorem dX3_isBucket_14 : decode cX3_isBucket 14 = .ok (.iconst 0, 1) := by decide +kernel
theorem dX3_isBucket_15 : decode cX3_isBucket 15 = .ok (.ireturn, 1) := by decide +kernel
theorem dX3_wantedOrder_0 : decode cX3_wantedOrder 0 = .ok (.aload_n 0, 1) := by decide +kernel
theorem dX3_wantedOrder_1 : decode cX3_wantedOrder 1 = .ok (.getfield 86, 3) := by decide +kernel
theorem dX3_wantedOrder_4 : decode cX3_wantedOrder 4 = .ok (.invokevirtual 222, 3) := by decide +kernel
theorem dX3_wantedOrder_7 : decode cX3_wantedOrder 7 = .ok (.ifCond .eq 13, 3) := by decide +kernel
theorem dX3_wantedOrder_10 : decode cX3_wantedOrder 10 = .ok (.aload_n 0, 1) := by decide +kernel
theorem dX3_wantedOrder_11 : decode cX3_wantedOrder 11 = .ok (.getfield 180, 3) := by decide +kernel
theorem dX3_wantedOrder_14 : decode cX3_wantedOrder 14 = .ok (.invokestatic 287, 3) := by decide +kernel
theorem dX3_wantedOrder_17 : decode cX3_wantedOrder 17 = .ok (.goto 13, 3) := by decide +kernel
theorem dX3_wantedOrder_20 : decode cX3_wantedOrder 20 = .ok (.aload_n 0, 1) := by decide +kernel
theorem dX3_wantedOrder_21 : decode cX3_wantedOrder 21 = .ok (.getfield 86, 3) := by decide +kernel
theorem dX3_wantedOrder_24 : decode cX3_wantedOrder 24 = .ok (.invokevirtual 259, 3) := by decide +kernel
theorem dX3_wantedOrder_27 : decode cX3_wantedOrder 27 = .ok (.invokestatic 37, 3) := by decide +kernel
theorem dX3_wantedOrder_30 : decode cX3_wantedOrder 30 = .ok (.ireturn, 1) := by decide +kernel
theorem dX3_orderOfKey_0 : decode cX3_orderOfKey 0 = .ok (.iconst 2, 1) := by decide +kernel
theorem dX3_orderOfKey_1 : decode cX3_orderOfKey 1 = .ok (.iload_n 0, 1) := by decide +kernel
theorem dX3_orderOfKey_2 : decode cX3_orderOfKey 2 = .ok (.invokestatic 181, 3) := by decide +kernel
theorem dX3_orderOfKey_5 : decode cX3_orderOfKey 5 = .ok (.invokestatic 290, 3) := by decide +kernel
theorem dX3_orderOfKey_8 : decode cX3_orderOfKey 8 = .ok (.imul, 1) := by decide +kernel
theorem dX3_orderOfKey_9 : decode cX3_orderOfKey 9 = .ok (.iconst 1, 1) := by decide +kernel
theorem dX3_orderOfKey_10 : decode cX3_orderOfKey 10 = .ok (.iadd, 1) := by decide +kernel
theorem dX3_orderOfKey_11 : decode cX3_orderOfKey 11 = .ok (.ireturn, 1) := by decide +kernel
theorem dX3_orderOfBucket_0 : decode cX3_orderOfBucket 0 = .ok (.iconst 2, 1) := by decide +kernel
theorem dX3_orderOfBucket_1 : decode cX3_orderOfBucket 1 = .ok (.iload_n 0, 1) := by decide +kernel
theorem dX3_orderOfBucket_2 : decode cX3_orderOfBucket 2 = .ok (.invokestatic 290, 3) := by decide +kernel
theorem dX3_orderOfBucket_5 : decode cX3_orderOfBucket 5 = .ok (.imul, 1) := by decide +kernel
theorem dX3_orderOfBucket_6 : decode cX3_orderOfBucket 6 = .ok (.ireturn, 1) := by decide +kernel
theorem dX3_hashOf_0 : decode cX3_hashOf 0 = .ok (.iload_n 0, 1) := by decide +kernel
theorem dX3_hashOf_1 : decode cX3_hashOf 1 = .ok (.sipush 167, 3) := by decide +kernel
theorem dX3_hashOf_4 : decode cX3_hashOf 4 = .ok (.imul, 1) := by decide +kernel
theorem dX3_hashOf_5 : decode cX3_hashOf 5 = .ok (.sipush 256, 3) := by decide +kernel
theorem dX3_hashOf_8 : decode cX3_hashOf 8 = .ok (.irem, 1) := by decide +kernel
theorem dX3_hashOf_9 : decode cX3_hashOf 9 = .ok (.ireturn, 1) := by decide +kernel
theorem dX3_turned_0 : decode cX3_turned 0 = .ok (.iconst 0, 1) := by decide +kernel
theorem dX3_turned_1 : decode cX3_turned 1 = .ok (.istore_n 1, 1) := by decide +kernel
theorem dX3_turned_2 : decode cX3_turned 2 = .ok (.iconst 0, 1) := by decide +kernel
theorem dX3_turned_3 : decode cX3_turned 3 = .ok (.istore_n 2, 1) := by decide +kernel
theorem dX3_turned_4 : decode cX3_turned 4 = .ok (.iload_n 2, 1) := by decide +kernel
theorem dX3_turned_5 : decode cX3_turned 5 = .ok (.bipush 8, 2) := by decide +kernel
theorem dX3_turned_7 : decode cX3_turned 7 = .ok (.if_icmp .ge 19, 3) := by decide +kernel
theorem dX3_turned_10 : decode cX3_turned 10 = .ok (.iconst 2, 1) := by decide +kernel
theorem dX3_turned_11 : decode cX3_turned 11 = .ok (.iload_n 1, 1) := by decide +kernel
theorem dX3_turned_12 : decode cX3_turned 12 = .ok (.imul, 1) := by decide +kernel
theorem dX3_turned_13 : decode cX3_turned 13 = .ok (.iload_n 0, 1) := by decide +kernel
theorem dX3_turned_14 : decode cX3_turned 14 = .ok (.iload_n 2, 1) := by decide +kernel
theorem dX3_turned_15 : decode cX3_turned 15 = .ok (.ishr, 1) := by decide +kernel
theorem dX3_turned_16 : decode cX3_turned 16 = .ok (.iconst 1, 1) := by decide +kernel
theorem dX3_turned_17 : decode cX3_turned 17 = .ok (.iand, 1) := by decide +kernel
theorem dX3_turned_18 : decode cX3_turned 18 = .ok (.iadd, 1) := by decide +kernel
theorem dX3_turned_19 : decode cX3_turned 19 = .ok (.istore_n 1, 1) := by decide +kernel
theorem dX3_turned_20 : decode cX3_turned 20 = .ok (.iinc 2 1, 3) := by decide +kernel
theorem dX3_turned_23 : decode cX3_turned 23 = .ok (.goto (-19), 3) := by decide +kernel
theorem dX3_turned_26 : decode cX3_turned 26 = .ok (.iload_n 1, 1) := by decide +kernel
theorem dX3_turned_27 : decode cX3_turned 27 = .ok (.ireturn, 1) := by decide +kernel
theorem dX3_parentOf_0 : decode cX3_parentOf 0 = .ok (.bipush 8, 2) := by decide +kernel
theorem dX3_parentOf_2 : decode cX3_parentOf 2 = .ok (.istore_n 1, 1) := by decide +kernel
theorem dX3_parentOf_3 : decode cX3_parentOf 3 = .ok (.iload_n 1, 1) := by decide +kernel
theorem dX3_parentOf_4 : decode cX3_parentOf 4 = .ok (.ifCond .le 20, 3) := by decide +kernel
theorem dX3_parentOf_7 : decode cX3_parentOf 7 = .ok (.iload_n 0, 1) := by decide +kernel
theorem dX3_parentOf_8 : decode cX3_parentOf 8 = .ok (.iload_n 1, 1) := by decide +kernel
theorem dX3_parentOf_9 : decode cX3_parentOf 9 = .ok (.iand, 1) := by decide +kernel
theorem dX3_parentOf_10 : decode cX3_parentOf 10 = .ok (.ifCond .eq 7, 3) := by decide +kernel
theorem dX3_parentOf_13 : decode cX3_parentOf 13 = .ok (.iload_n 0, 1) := by decide +kernel
theorem dX3_parentOf_14 : decode cX3_parentOf 14 = .ok (.iload_n 1, 1) := by decide +kernel
theorem dX3_parentOf_15 : decode cX3_parentOf 15 = .ok (.isub, 1) := by decide +kernel
theorem dX3_parentOf_16 : decode cX3_parentOf 16 = .ok (.ireturn, 1) := by decide +kernel
theorem dX3_parentOf_17 : decode cX3_parentOf 17 = .ok (.iload_n 1, 1) := by decide +kernel
theorem dX3_parentOf_18 : decode cX3_parentOf 18 = .ok (.iconst 2, 1) := by decide +kernel
theorem dX3_parentOf_19 : decode cX3_parentOf 19 = .ok (.idiv, 1) := by decide +kernel
theorem dX3_parentOf_20 : decode cX3_parentOf 20 = .ok (.istore_n 1, 1) := by decide +kernel
theorem dX3_parentOf_21 : decode cX3_parentOf 21 = .ok (.goto (-18), 3) := by decide +kernel
theorem dX3_parentOf_24 : decode cX3_parentOf 24 = .ok (.iconst 0, 1) := by decide +kernel
theorem dX3_parentOf_25 : decode cX3_parentOf 25 = .ok (.ireturn, 1) := by decide +kernel
end
section
theorem dX4_init_0 : decode cX4_init 0 = .ok (.aload_n 0, 1) := by decide +kernel
theorem dX4_init_1 : decode cX4_init 1 = .ok (.invokespecial 1, 3) := by decide +kernel
theorem dX4_init_4 : decode cX4_init 4 = .ok (.aload_n 0, 1) := by decide +kernel
theorem dX4_init_5 : decode cX4_init 5 = .ok (.iconst 0, 1) := by decide +kernel
theorem dX4_init_6 : decode cX4_init 6 = .ok (.putfield 7, 3) := by decide +kernel
theorem dX4_init_9 : decode cX4_init 9 = .ok (.aload_n 0, 1) := by decide +kernel
theorem dX4_init_10 : decode cX4_init 10 = .ok (.bipush 64, 2) := by decide +kernel
theorem dX4_init_12 : decode cX4_init 12 = .ok (.newarray .int, 2) := by decide +kernel
theorem dX4_init_14 : decode cX4_init 14 = .ok (.putfield 13, 3) := by decide +kernel
theorem dX4_init_17 : decode cX4_init 17 = .ok (.aload_n 0, 1) := by decide +kernel
theorem dX4_init_18 : decode cX4_init 18 = .ok (.bipush 64, 2) := by decide +kernel
theorem dX4_init_20 : decode cX4_init 20 = .ok (.newarray .int, 2) := by decide +kernel
theorem dX4_init_22 : decode cX4_init 22 = .ok (.putfield 17, 3) := by decide +kernel
theorem dX4_init_25 : decode cX4_init 25 = .ok (.aload_n 0, 1) := by decide +kernel
theorem dX4_init_26 : decode cX4_init 26 = .ok (.bipush 64, 2) := by decide +kernel
theorem dX4_init_28 : decode cX4_init 28 = .ok (.newarray .int, 2) := by decide +kernel
theorem dX4_init_30 : decode cX4_init 30 = .ok (.putfield 20, 3) := by decide +kernel
theorem dX4_init_33 : decode cX4_init 33 = .ok (.aload_n 0, 1) := by decide +kernel
theorem dX4_init_34 : decode cX4_init 34 = .ok (.bipush 64, 2) := by decide +kernel
theorem dX4_init_36 : decode cX4_init 36 = .ok (.newarray .boolean, 2) := by decide +kernel
theorem dX4_init_38 : decode cX4_init 38 = .ok (.putfield 23, 3) := by decide +kernel
theorem dX4_init_41 : decode cX4_init 41 = .ok (.aload_n 0, 1) := by decide +kernel
theorem dX4_init_42 : decode cX4_init 42 = .ok (.bipush 64, 2) := by decide +kernel
theorem dX4_init_44 : decode cX4_init 44 = .ok (.newarray .int, 2) := by decide +kernel
theorem dX4_init_46 : decode cX4_init 46 = .ok (.putfield 27, 3) := by decide +kernel
theorem dX4_init_49 : decode cX4_init 49 = .ok (.aload_n 0, 1) := by decide +kernel
theorem dX4_init_50 : decode cX4_init 50 = .ok (.bipush 64, 2) := by decide +kernel
theorem dX4_init_52 : decode cX4_init 52 = .ok (.newarray .int, 2) := by decide +kernel
theorem dX4_init_54 : decode cX4_init 54 = .ok (.putfield 30, 3) := by decide +kernel
theorem dX4_init_57 : decode cX4_init 57 = .ok (.aload_n 0, 1) := by decide +kernel
theorem dX4_init_58 : decode cX4_init 58 = .ok (.bipush 64, 2) := by decide +kernel
theorem dX4_init_60 : decode cX4_init 60 = .ok (.newarray .int, 2) := by decide +kernel
theorem dX4_init_62 : decode cX4_init 62 = .ok (.putfield 33, 3) := by decide +kernel
theorem dX4_init_65 : decode cX4_init 65 = .ok (.aload_n 0, 1) := by decide +kernel
theorem dX4_init_66 : decode cX4_init 66 = .ok (.bipush 64, 2) := by decide +kernel
theorem dX4_init_68 : decode cX4_init 68 = .ok (.newarray .int, 2) := by decide +kernel
theorem dX4_init_70 : decode cX4_init 70 = .ok (.putfield 36, 3) := by decide +kernel
theorem dX4_init_73 : decode cX4_init 73 = .ok (.aload_n 0, 1) := by decide +kernel
theorem dX4_init_74 : decode cX4_init 74 = .ok (.bipush 16, 2) := by decide +kernel
theorem dX4_init_76 : decode cX4_init 76 = .ok (.newarray .int, 2) := by decide +kernel
theorem dX4_init_78 : decode cX4_init 78 = .ok (.putfield 39, 3) := by decide +kernel
theorem dX4_init_81 : decode cX4_init 81 = .ok (.aload_n 0, 1) := by decide +kernel
theorem dX4_init_82 : decode cX4_init 82 = .ok (.iconst 1, 1) := by decide +kernel
theorem dX4_init_83 : decode cX4_init 83 = .ok (.putfield 42, 3) := by decide +kernel
theorem dX4_init_86 : decode cX4_init 86 = .ok (.aload_n 0, 1) := by decide +kernel
theorem dX4_init_87 : decode cX4_init 87 = .ok (.iconst 0, 1) := by decide +kernel
theorem dX4_init_88 : decode cX4_init 88 = .ok (.putfield 45, 3) := by decide +kernel
theorem dX4_init_91 : decode cX4_init 91 = .ok (.aload_n 0, 1) := by decide +kernel
theorem dX4_init_92 : decode cX4_init 92 = .ok (.iconst 1, 1) := by decide +kernel
theorem dX4_init_93 : decode cX4_init 93 = .ok (.putfield 48, 3) := by decide +kernel
theorem dX4_init_96 : decode cX4_init 96 = .ok (.aload_n 0, 1) := by decide +kernel
theorem dX4_init_97 : decode cX4_init 97 = .ok (.iconst 4, 1) := by decide +kernel
theorem dX4_init_98 : decode cX4_init 98 = .ok (.newarray .int, 2) := by decide +kernel
theorem dX4_init_100 : decode cX4_init 100 = .ok (.putfield 51, 3) := by decide +kernel
theorem dX4_init_103 : decode cX4_init 103 = .ok (.aload_n 0, 1) := by decide +kernel
theorem dX4_init_104 : decode cX4_init 104 = .ok (.iconst 4, 1) := by decide +kernel
theorem dX4_init_105 : decode cX4_init 105 = .ok (.newarray .int, 2) := by decide +kernel
theorem dX4_init_107 : decode cX4_init 107 = .ok (.putfield 54, 3) := by decide +kernel
theorem dX4_init_110 : decode cX4_init 110 = .ok (.aload_n 0, 1) := by decide +kernel
theorem dX4_init_111 : decode cX4_init 111 = .ok (.iconst 4, 1) := by decide +kernel
theorem dX4_init_112 : decode cX4_init 112 = .ok (.newarray .int, 2) := by decide +kernel
theorem dX4_init_114 : decode cX4_init 114 = .ok (.putfield 57, 3) := by decide +kernel
theorem dX4_init_117 : decode cX4_init 117 = .ok (.aload_n 0, 1) := by decide +kernel
theorem dX4_init_118 : decode cX4_init 118 = .ok (.iconst 4, 1) := by decide +kernel
theorem dX4_init_119 : decode cX4_init 119 = .ok (.newarray .int, 2) := by decide +kernel
theorem dX4_init_121 : decode cX4_init 121 = .ok (.putfield 60, 3) := by decide +kernel
theorem dX4_init_124 : decode cX4_init 124 = .ok (.aload_n 0, 1) := by decide +kernel
theorem dX4_init_125 : decode cX4_init 125 = .ok (.iconst 4, 1) := by decide +kernel
theorem dX4_init_126 : decode cX4_init 126 = .ok (.newarray .int, 2) := by decide +kernel
theorem dX4_init_128 : decode cX4_init 128 = .ok (.putfield 63, 3) := by decide +kernel
theorem dX4_init_131 : decode cX4_init 131 = .ok (.aload_n 0, 1) := by decide +kernel
theorem dX4_init_132 : decode cX4_init 132 = .ok (.iconst 4, 1) := by decide +kernel
theorem dX4_init_133 : decode cX4_init 133 = .ok (.newarray .int, 2) := by decide +kernel
theorem dX4_init_135 : decode cX4_init 135 = .ok (.putfield 66, 3) := by decide +kernel
theorem dX4_init_138 : decode cX4_init 138 = .ok (.aload_n 0, 1) := by decide +kernel
theorem dX4_init_139 : decode cX4_init 139 = .ok (.iconst 4, 1) := by decide +kernel
theorem dX4_init_140 : decode cX4_init 140 = .ok (.newarray .int, 2) := by decide +kernel
theorem dX4_init_142 : decode cX4_init 142 = .ok (.putfield 69, 3) := by decide +kernel
theorem dX4_init_145 : decode cX4_init 145 = .ok (.aload_n 0, 1) := by decide +kernel
theorem dX4_init_146 : decode cX4_init 146 = .ok (.bipush 64, 2) := by decide +kernel
theorem dX4_init_148 : decode cX4_init 148 = .ok (.newarray .int, 2) := by decide +kernel
theorem dX4_init_150 : decode cX4_init 150 = .ok (.putfield 72, 3) := by decide +kernel
theorem dX4_init_153 : decode cX4_init 153 = .ok (.aload_n 0, 1) := by decide +kernel
theorem dX4_init_154 : decode cX4_init 154 = .ok (.iconst 4, 1) := by decide +kernel
theorem dX4_init_155 : decode cX4_init 155 = .ok (.newarray .int, 2) := by decide +kernel
theorem dX4_init_157 : decode cX4_init 157 = .ok (.putfield 75, 3) := by decide +kernel
theorem dX4_init_160 : decode cX4_init 160 = .ok (.aload_n 0, 1) := by decide +kernel
theorem dX4_init_161 : decode cX4_init 161 = .ok (.iconst 4, 1) := by decide +kernel
theorem dX4_init_162 : decode cX4_init 162 = .ok (.newarray .int, 2) := by decide +kernel
theorem dX4_init_164 : decode cX4_init 164 = .ok (.putfield 78, 3) := by decide +kernel
theorem dX4_init_167 : decode cX4_init 167 = .ok (.aload_n 0, 1) := by decide +kernel
theorem dX4_init_168 : decode cX4_init 168 = .ok (.iconst 4, 1) := by decide +kernel
theorem dX4_init_169 : decode cX4_init 169 = .ok (.newarray .int, 2) := by decide +kernel
theorem dX4_init_171 : decode cX4_init 171 = .ok (.putfield 81, 3) := by decide +kernel
theorem dX4_init_174 : decode cX4_init 174 = .ok (.aload_n 0, 1) := by decide +kernel
theorem dX4_init_175 : decode cX4_init 175 = .ok (.iconst 4, 1) := by decide +kernel
theorem dX4_init_176 : decode cX4_init 176 = .ok (.newarray .int, 2) := by decide +kernel
theorem dX4_init_178 : decode cX4_init 178 = .ok (.putfield 84, 3) := by decide +kernel
theorem dX4_init_181 : decode cX4_init 181 = .ok (.aload_n 0, 1) := by decide +kernel
theorem dX4_init_182 : decode cX4_init 182 = .ok (.iconst 4, 1) := by decide +kernel
theorem dX4_init_183 : decode cX4_init 183 = .ok (.newarray .int, 2) := by decide +kernel
theorem dX4_init_185 : decode cX4_init 185 = .ok (.putfield 87, 3) := by decide +kernel
theorem dX4_init_188 : decode cX4_init 188 = .ok (.aload_n 0, 1) := by decide +kernel
theorem dX4_init_189 : decode cX4_init 189 = .ok (.iconst 4, 1) := by decide +kernel
theorem dX4_init_190 : decode cX4_init 190 = .ok (.newarray .boolean, 2) := by decide +kernel
theorem dX4_init_192 : decode cX4_init 192 = .ok (.putfield 90, 3) := by decide +kernel
theorem dX4_init_195 : decode cX4_init 195 = .ok (.aload_n 0, 1) := by decide +kernel
theorem dX4_init_196 : decode cX4_init 196 = .ok (.iconst 4, 1) := by decide +kernel
theorem dX4_init_197 : decode cX4_init 197 = .ok (.newarray .int, 2) := by decide +kernel
theorem dX4_init_199 : decode cX4_init 199 = .ok (.putfield 93, 3) := by decide +kernel
theorem dX4_init_202 : decode cX4_init 202 = .ok (.aload_n 0, 1) := by decide +kernel
theorem dX4_init_203 : decode cX4_init 203 = .ok (.iconst 4, 1) := by decide +kernel
theorem dX4_init_204 : decode cX4_init 204 = .ok (.newarray .int, 2) := by decide +kernel
theorem dX4_init_206 : decode cX4_init 206 = .ok (.putfield 96, 3) := by decide +kernel
theorem dX4_init_209 : decode cX4_init 209 = .ok (.aload_n 0, 1) := by decide +kernel
theorem dX4_init_210 : decode cX4_init 210 = .ok (.iconst 4, 1) := by decide +kernel
theorem dX4_init_211 : decode cX4_init 211 = .ok (.newarray .boolean, 2) := by decide +kernel
theorem dX4_init_213 : decode cX4_init 213 = .ok (.putfield 99, 3) := by decide +kernel
theorem dX4_init_216 : decode cX4_init 216 = .ok (.aload_n 0, 1) := by decide +kernel
theorem dX4_init_217 : decode cX4_init 217 = .ok (.iconst 4, 1) := by decide +kernel
theorem dX4_init_218 : decode cX4_init 218 = .ok (.newarray .int, 2) := by decide +kernel
theorem dX4_init_220 : decode cX4_init 220 = .ok (.putfield 102, 3) := by decide +kernel
theorem dX4_init_223 : decode cX4_init 223 = .ok (.aload_n 0, 1) := by decide +kernel
theorem dX4_init_224 : decode cX4_init 224 = .ok (.sipush 256, 3) := by decide +kernel
theorem dX4_init_227 : decode cX4_init 227 = .ok (.newarray .int, 2) := by decide +kernel
theorem dX4_init_229 : decode cX4_init 229 = .ok (.putfield 105, 3) := by decide +kernel
theorem dX4_init_232 : decode cX4_init 232 = .ok (.aload_n 0, 1) := by decide +kernel
theorem dX4_init_233 : decode cX4_init 233 = .ok (.iconst 4, 1) := by decide +kernel
theorem dX4_init_234 : decode cX4_init 234 = .ok (.newarray .int, 2) := by decide +kernel
theorem dX4_init_236 : decode cX4_init 236 = .ok (.putfield 108, 3) := by decide +kernel
theorem dX4_init_239 : decode cX4_init 239 = .ok (.aload_n 0, 1) := by decide +kernel
theorem dX4_init_240 : decode cX4_init 240 = .ok (.iconst 4, 1) := by decide +kernel
theorem dX4_init_241 : decode cX4_init 241 = .ok (.newarray .int, 2) := by decide +kernel
theorem dX4_init_243 : decode cX4_init 243 = .ok (.putfield 111, 3) := by decide +kernel
theorem dX4_init_246 : decode cX4_init 246 = .ok (.iconst 0, 1) := by decide +kernel
theorem dX4_init_247 : decode cX4_init 247 = .ok (.istore_n 1, 1) := by decide +kernel
theorem dX4_init_248 : decode cX4_init 248 = .ok (.iload_n 1, 1) := by decide +kernel
theorem dX4_init_249 : decode cX4_init 249 = .ok (.bipush 64, 2) := by decide +kernel
theorem dX4_init_251 : decode cX4_init 251 = .ok (.if_icmp .ge 23, 3) := by decide +kernel
theorem dX4_init_254 : decode cX4_init 254 = .ok (.aload_n 0, 1) := by decide +kernel
theorem dX4_init_255 : decode cX4_init 255 = .ok (.getfield 20, 3) := by decide +kernel
theorem dX4_init_258 : decode cX4_init 258 = .ok (.iload_n 1, 1) := by decide +kernel
theorem dX4_init_259 : decode cX4_init 259 = .ok (.iconst (-1), 1) := by decide +kernel
theorem dX4_init_260 : decode cX4_init 260 = .ok (.iastore, 1) := by decide +kernel
theorem dX4_init_261 : decode cX4_init 261 = .ok (.aload_n 0, 1) := by decide +kernel
theorem dX4_init_262 : decode cX4_init 262 = .ok (.getfield 27, 3) := by decide +kernel
theorem dX4_init_265 : decode cX4_init 265 = .ok (.iload_n 1, 1) := by decide +kernel
theorem dX4_init_266 : decode cX4_init 266 = .ok (.iconst (-1), 1) := by decide +kernel
theorem dX4_init_267 : decode cX4_init 267 = .ok (.iastore, 1) := by decide +kernel
theorem dX4_init_268 : decode cX4_init 268 = .ok (.iinc 1 1, 3) := by decide +kernel
theorem dX4_init_271 : decode cX4_init 271 = .ok (.goto (-23), 3) := by decide +kernel
theorem dX4_init_274 : decode cX4_init 274 = .ok (.iconst 1, 1) := by decide +kernel
theorem dX4_init_275 : decode cX4_init 275 = .ok (.istore_n 1, 1) := by decide +kernel
theorem dX4_init_276 : decode cX4_init 276 = .ok (.iload_n 1, 1) := by decide +kernel
theorem dX4_init_277 : decode cX4_init 277 = .ok (.bipush 16, 2) := by decide +kernel
theorem dX4_init_279 : decode cX4_init 279 = .ok (.if_icmp .ge 16, 3) := by decide +kernel
theorem dX4_init_282 : decode cX4_init 282 = .ok (.aload_n 0, 1) := by decide +kernel
theorem dX4_init_283 : decode cX4_init 283 = .ok (.getfield 39, 3) := by decide +kernel
theorem dX4_init_286 : decode cX4_init 286 = .ok (.iload_n 1, 1) := by decide +kernel
theorem dX4_init_287 : decode cX4_init 287 = .ok (.iconst (-1), 1) := by decide +kernel
theorem dX4_init_288 : decode cX4_init 288 = .ok (.iastore, 1) := by decide +kernel
theorem dX4_init_289 : decode cX4_init 289 = .ok (.iinc 1 1, 3) := by decide +kernel
theorem dX4_init_292 : decode cX4_init 292 = .ok (.goto (-16), 3) := by decide +kernel
theorem dX4_init_295 : decode cX4_init 295 = .ok (.aload_n 0, 1) := by decide +kernel
theorem dX4_init_296 : decode cX4_init 296 = .ok (.getfield 13, 3) := by decide +kernel
theorem dX4_init_299 : decode cX4_init 299 = .ok (.iconst 0, 1) := by decide +kernel
theorem dX4_init_300 : decode cX4_init 300 = .ok (.iconst 1, 1) := by decide +kernel
theorem dX4_init_301 : decode cX4_init 301 = .ok (.iastore, 1) := by decide +kernel
theorem dX4_init_302 : decode cX4_init 302 = .ok (.aload_n 0, 1) := by decide +kernel
theorem dX4_init_303 : decode cX4_init 303 = .ok (.getfield 33, 3) := by decide +kernel
theorem dX4_init_306 : decode cX4_init 306 = .ok (.iconst 0, 1) := by decide +kernel
theorem dX4_init_307 : decode cX4_init 307 = .ok (.iconst 1, 1) := by decide +kernel
theorem dX4_init_308 : decode cX4_init 308 = .ok (.iastore, 1) := by decide +kernel
theorem dX4_init_309 : decode cX4_init 309 = .ok (.iconst 0, 1) := by decide +kernel
theorem dX4_init_310 : decode cX4_init 310 = .ok (.istore_n 1, 1) := by decide +kernel
theorem dX4_init_311 : decode cX4_init 311 = .ok (.iload_n 1, 1) := by decide +kernel
theorem dX4_init_312 : decode cX4_init 312 = .ok (.iconst 4, 1) := by decide +kernel
theorem dX4_init_313 : decode cX4_init 313 = .ok (.if_icmp .ge 23, 3) := by decide +kernel
theorem dX4_init_316 : decode cX4_init 316 = .ok (.aload_n 0, 1) := by decide +kernel
theorem dX4_init_317 : decode cX4_init 317 = .ok (.getfield 93, 3) := by decide +kernel
theorem dX4_init_320 : decode cX4_init 320 = .ok (.iload_n 1, 1) := by decide +kernel
theorem dX4_init_321 : decode cX4_init 321 = .ok (.iconst (-1), 1) := by decide +kernel
theorem dX4_init_322 : decode cX4_init 322 = .ok (.iastore, 1) := by decide +kernel
theorem dX4_init_323 : decode cX4_init 323 = .ok (.aload_n 0, 1) := by decide +kernel
theorem dX4_init_324 : decode cX4_init 324 = .ok (.getfield 111, 3) := by decide +kernel
theorem dX4_init_327 : decode cX4_init 327 = .ok (.iload_n 1, 1) := by decide +kernel
theorem dX4_init_328 : decode cX4_init 328 = .ok (.iconst (-1), 1) := by decide +kernel
theorem dX4_init_329 : decode cX4_init 329 = .ok (.iastore, 1) := by decide +kernel
theorem dX4_init_330 : decode cX4_init 330 = .ok (.iinc 1 1, 3) := by decide +kernel
theorem dX4_init_333 : decode cX4_init 333 = .ok (.goto (-22), 3) := by decide +kernel
theorem dX4_init_336 : decode cX4_init 336 = .ok (.return_, 1) := by decide +kernel
theorem dX4_thrown_0 : decode cX4_thrown 0 = .ok (.aload_n 0, 1) := by decide +kernel
theorem dX4_thrown_1 : decode cX4_thrown 1 = .ok (.getfield 7, 3) := by decide +kernel
theorem dX4_thrown_4 : decode cX4_thrown 4 = .ok (.ireturn, 1) := by decide +kernel
theorem dX4_in_0 : decode cX4_in 0 = .ok (.iload_n 0, 1) := by decide +kernel
theorem dX4_in_1 : decode cX4_in 1 = .ok (.iload_n 1, 1) := by decide +kernel
theorem dX4_in_2 : decode cX4_in 2 = .ok (.if_icmp .lt 12, 3) := by decide +kernel
theorem dX4_in_5 : decode cX4_in 5 = .ok (.iload_n 0, 1) := by decide +kernel
theorem dX4_in_6 : decode cX4_in 6 = .ok (.iload_n 2, 1) := by decide +kernel
theorem dX4_in_7 : decode cX4_in 7 = .ok (.if_icmp .gt 7, 3) := by decide +kernel
theorem dX4_in_10 : decode cX4_in 10 = .ok (.iconst 1, 1) := by decide +kernel
theorem dX4_in_11 : decode cX4_in 11 = .ok (.goto 4, 3) := by decide +kernel
theorem dX4_in_14 : decode cX4_in 14 = .ok (.iconst 0, 1) := by decide +kernel
theorem dX4_in_15 : decode cX4_in 15 = .ok (.ireturn, 1) := by decide +kernel
theorem dX4_turned_0 : decode cX4_turned 0 = .ok (.iconst 0, 1) := by decide +kernel
theorem dX4_turned_1 : decode cX4_turned 1 = .ok (.istore_n 1, 1) := by decide +kernel
theorem dX4_turned_2 : decode cX4_turned 2 = .ok (.iconst 0, 1) := by decide +kernel
theorem dX4_turned_3 : decode cX4_turned 3 = .ok (.istore_n 2, 1) := by decide +kernel
theorem dX4_turned_4 : decode cX4_turned 4 = .ok (.iload_n 2, 1) := by decide +kernel
theorem dX4_turned_5 : decode cX4_turned 5 = .ok (.bipush 8, 2) := by decide +kernel
theorem dX4_turned_7 : decode cX4_turned 7 = .ok (.if_icmp .ge 26, 3) := by decide +kernel
theorem dX4_turned_10 : decode cX4_turned 10 = .ok (.iload_n 0, 1) := by decide +kernel
theorem dX4_turned_11 : decode cX4_turned 11 = .ok (.iload_n 2, 1) := by decide +kernel
theorem dX4_turned_12 : decode cX4_turned 12 = .ok (.ishr, 1) := by decide +kernel
theorem dX4_turned_13 : decode cX4_turned 13 = .ok (.iconst 1, 1) := by decide +kernel
theorem dX4_turned_14 : decode cX4_turned 14 = .ok (.iand, 1) := by decide +kernel
theorem dX4_turned_15 : decode cX4_turned 15 = .ok (.iconst 1, 1) := by decide +kernel
theorem dX4_turned_16 : decode cX4_turned 16 = .ok (.if_icmp .ne 11, 3) := by decide +kernel
theorem dX4_turned_19 : decode cX4_turned 19 = .ok (.iload_n 1, 1) := by decide +kernel
theorem dX4_turned_20 : decode cX4_turned 20 = .ok (.sipush 128, 3) := by decide +kernel
theorem dX4_turned_23 : decode cX4_turned 23 = .ok (.iload_n 2, 1) := by decide +kernel
theorem dX4_turned_24 : decode cX4_turned 24 = .ok (.ishr, 1) := by decide +kernel
theorem dX4_turned_25 : decode cX4_turned 25 = .ok (.iadd, 1) := by decide +kernel
theorem dX4_turned_26 : decode cX4_turned 26 = .ok (.istore_n 1, 1) := by decide +kernel
theorem dX4_turned_27 : decode cX4_turned 27 = .ok (.iinc 2 1, 3) := by decide +kernel
theorem dX4_turned_30 : decode cX4_turned 30 = .ok (.goto (-26), 3) := by decide +kernel
theorem dX4_turned_33 : decode cX4_turned 33 = .ok (.iload_n 1, 1) := by decide +kernel
theorem dX4_turned_34 : decode cX4_turned 34 = .ok (.ireturn, 1) := by decide +kernel
theorem dX4_hash_0 : decode cX4_hash 0 = .ok (.iload_n 0, 1) := by decide +kernel
theorem dX4_hash_1 : decode cX4_hash 1 = .ok (.sipush 167, 3) := by decide +kernel
theorem dX4_hash_4 : decode cX4_hash 4 = .ok (.imul, 1) := by decide +kernel
theorem dX4_hash_5 : decode cX4_hash 5 = .ok (.sipush 256, 3) := by decide +kernel
theorem dX4_hash_8 : decode cX4_hash 8 = .ok (.irem, 1) := by decide +kernel
theorem dX4_hash_9 : decode cX4_hash 9 = .ok (.ireturn, 1) := by decide +kernel
theorem dX4_parent_0 : decode cX4_parent 0 = .ok (.bipush 8, 2) := by decide +kernel
theorem dX4_parent_2 : decode cX4_parent 2 = .ok (.istore_n 1, 1) := by decide +kernel
theorem dX4_parent_3 : decode cX4_parent 3 = .ok (.iload_n 1, 1) := by decide +kernel
theorem dX4_parent_4 : decode cX4_parent 4 = .ok (.iload_n 0, 1) := by decide +kernel
theorem dX4_parent_5 : decode cX4_parent 5 = .ok (.if_icmp .le 10, 3) := by decide +kernel
theorem dX4_parent_8 : decode cX4_parent 8 = .ok (.iload_n 1, 1) := by decide +kernel
theorem dX4_parent_9 : decode cX4_parent 9 = .ok (.iconst 2, 1) := by decide +kernel
theorem dX4_parent_10 : decode cX4_parent 10 = .ok (.idiv, 1) := by decide +kernel
theorem dX4_parent_11 : decode cX4_parent 11 = .ok (.istore_n 1, 1) := by decide +kernel
theorem dX4_parent_12 : decode cX4_parent 12 = .ok (.goto (-9), 3) := by decide +kernel
theorem dX4_parent_15 : decode cX4_parent 15 = .ok (.iload_n 0, 1) := by decide +kernel
theorem dX4_parent_16 : decode cX4_parent 16 = .ok (.iload_n 1, 1) := by decide +kernel
theorem dX4_parent_17 : decode cX4_parent 17 = .ok (.isub, 1) := by decide +kernel
theorem dX4_parent_18 : decode cX4_parent 18 = .ok (.ireturn, 1) := by decide +kernel
theorem dX4_wanted_0 : decode cX4_wanted 0 = .ok (.aload_n 0, 1) := by decide +kernel
theorem dX4_wanted_1 : decode cX4_wanted 1 = .ok (.getfield 75, 3) := by decide +kernel
theorem dX4_wanted_4 : decode cX4_wanted 4 = .ok (.iload_n 1, 1) := by decide +kernel
theorem dX4_wanted_5 : decode cX4_wanted 5 = .ok (.iaload, 1) := by decide +kernel
theorem dX4_wanted_6 : decode cX4_wanted 6 = .ok (.ifCond .le 27, 3) := by decide +kernel
theorem dX4_wanted_9 : decode cX4_wanted 9 = .ok (.iconst 2, 1) := by decide +kernel
theorem dX4_wanted_10 : decode cX4_wanted 10 = .ok (.aload_n 0, 1) := by decide +kernel
theorem dX4_wanted_11 : decode cX4_wanted 11 = .ok (.getfield 72, 3) := by decide +kernel
theorem dX4_wanted_14 : decode cX4_wanted 14 = .ok (.bipush 16, 2) := by decide +kernel
theorem dX4_wanted_16 : decode cX4_wanted 16 = .ok (.iload_n 1, 1) := by decide +kernel
theorem dX4_wanted_17 : decode cX4_wanted 17 = .ok (.imul, 1) := by decide +kernel
theorem dX4_wanted_18 : decode cX4_wanted 18 = .ok (.aload_n 0, 1) := by decide +kernel
theorem dX4_wanted_19 : decode cX4_wanted 19 = .ok (.getfield 75, 3) := by decide +kernel
theorem dX4_wanted_22 : decode cX4_wanted 22 = .ok (.iload_n 1, 1) := by decide +kernel
theorem dX4_wanted_23 : decode cX4_wanted 23 = .ok (.iaload, 1) := by decide +kernel
theorem dX4_wanted_24 : decode cX4_wanted 24 = .ok (.iadd, 1) := by decide +kernel
theorem dX4_wanted_25 : decode cX4_wanted 25 = .ok (.iconst 1, 1) := by decide +kernel
theorem dX4_wanted_26 : decode cX4_wanted 26 = .ok (.isub, 1) := by decide +kernel
theorem dX4_wanted_27 : decode cX4_wanted 27 = .ok (.iaload, 1) := by decide +kernel
theorem dX4_wanted_28 : decode cX4_wanted 28 = .ok (.invokestatic 114, 3) := by decide +kernel
theorem dX4_wanted_31 : decode cX4_wanted 31 = .ok (.imul, 1) := by decide +kernel
theorem dX4_wanted_32 : decode cX4_wanted 32 = .ok (.ireturn, 1) := by decide +kernel
theorem dX4_wanted_33 : decode cX4_wanted 33 = .ok (.iconst 2, 1) := by decide +kernel
theorem dX4_wanted_34 : decode cX4_wanted 34 = .ok (.aload_n 0, 1) := by decide +kernel
theorem dX4_wanted_35 : decode cX4_wanted 35 = .ok (.getfield 57, 3) := by decide +kernel
theorem dX4_wanted_38 : decode cX4_wanted 38 = .ok (.iload_n 1, 1) := by decide +kernel
theorem dX4_wanted_39 : decode cX4_wanted 39 = .ok (.iaload, 1) := by decide +kernel
theorem dX4_wanted_40 : decode cX4_wanted 40 = .ok (.invokestatic 118, 3) := by decide +kernel
theorem dX4_wanted_43 : decode cX4_wanted 43 = .ok (.invokestatic 114, 3) := by decide +kernel
theorem dX4_wanted_46 : decode cX4_wanted 46 = .ok (.imul, 1) := by decide +kernel
theorem dX4_wanted_47 : decode cX4_wanted 47 = .ok (.iconst 1, 1) := by decide +kernel
theorem dX4_wanted_48 : decode cX4_wanted 48 = .ok (.iadd, 1) := by decide +kernel
theorem dX4_wanted_49 : decode cX4_wanted 49 = .ok (.ireturn, 1) := by decide +kernel
theorem dX4_start_0 : decode cX4_start 0 = .ok (.aload_n 0, 1) := by decide +kernel
theorem dX4_start_1 : decode cX4_start 1 = .ok (.iconst 0, 1) := by decide +kernel
theorem dX4_start_2 : decode cX4_start 2 = .ok (.putfield 7, 3) := by decide +kernel
theorem dX4_start_5 : decode cX4_start 5 = .ok (.iload_n 1, 1) := by decide +kernel
theorem dX4_start_6 : decode cX4_start 6 = .ok (.iconst 0, 1) := by decide +kernel
theorem dX4_start_7 : decode cX4_start 7 = .ok (.iconst 3, 1) := by decide +kernel
theorem dX4_start_8 : decode cX4_start 8 = .ok (.invokestatic 121, 3) := by decide +kernel
theorem dX4_start_11 : decode cX4_start 11 = .ok (.ifCond .eq 43, 3) := by decide +kernel
theorem dX4_start_14 : decode cX4_start 14 = .ok (.aload_n 0, 1) := by decide +kernel
theorem dX4_start_15 : decode cX4_start 15 = .ok (.getfield 51, 3) := by decide +kernel
theorem dX4_start_18 : decode cX4_start 18 = .ok (.iload_n 1, 1) := by decide +kernel
theorem dX4_start_19 : decode cX4_start 19 = .ok (.iaload, 1) := by decide +kernel
theorem dX4_start_20 : decode cX4_start 20 = .ok (.ifCond .ne 34, 3) := by decide +kernel
theorem dX4_start_23 : decode cX4_start 23 = .ok (.iload_n 2, 1) := by decide +kernel
theorem dX4_start_24 : decode cX4_start 24 = .ok (.iconst 0, 1) := by decide +kernel
theorem dX4_start_25 : decode cX4_start 25 = .ok (.iconst 2, 1) := by decide +kernel
theorem dX4_start_26 : decode cX4_start 26 = .ok (.invokestatic 121, 3) := by decide +kernel
theorem dX4_start_29 : decode cX4_start 29 = .ok (.ifCond .eq 25, 3) := by decide +kernel
theorem dX4_start_32 : decode cX4_start 32 = .ok (.iload_n 3, 1) := by decide +kernel
theorem dX4_start_33 : decode cX4_start 33 = .ok (.iconst 0, 1) := by decide +kernel
theorem dX4_start_34 : decode cX4_start 34 = .ok (.sipush 255, 3) := by decide +kernel
theorem dX4_start_37 : decode cX4_start 37 = .ok (.invokestatic 121, 3) := by decide +kernel
theorem dX4_start_40 : decode cX4_start 40 = .ok (.ifCond .eq 14, 3) := by decide +kernel
theorem dX4_start_43 : decode cX4_start 43 = .ok (.iload 4, 2) := by decide +kernel
theorem dX4_start_45 : decode cX4_start 45 = .ok (.iconst 0, 1) := by decide +kernel
theorem dX4_start_46 : decode cX4_start 46 = .ok (.ldc 125, 2) := by decide +kernel
theorem dX4_start_48 : decode cX4_start 48 = .ok (.invokestatic 121, 3) := by decide +kernel
theorem dX4_start_51 : decode cX4_start 51 = .ok (.ifCond .ne 5, 3) := by decide +kernel
theorem dX4_start_54 : decode cX4_start 54 = .ok (.iconst 0, 1) := by decide +kernel
theorem dX4_start_55 : decode cX4_start 55 = .ok (.ireturn, 1) := by decide +kernel
theorem dX4_start_56 : decode cX4_start 56 = .ok (.aload_n 0, 1) := by decide +kernel
theorem dX4_start_57 : decode cX4_start 57 = .ok (.getfield 51, 3) := by decide +kernel
theorem dX4_start_60 : decode cX4_start 60 = .ok (.iload_n 1, 1) := by decide +kernel
theorem dX4_start_61 : decode cX4_start 61 = .ok (.iconst 1, 1) := by decide +kernel
theorem dX4_start_62 : decode cX4_start 62 = .ok (.iastore, 1) := by decide +kernel
theorem dX4_start_63 : decode cX4_start 63 = .ok (.aload_n 0, 1) := by decide +kernel
theorem dX4_start_64 : decode cX4_start 64 = .ok (.getfield 54, 3) := by decide +kernel
theorem dX4_start_67 : decode cX4_start 67 = .ok (.iload_n 1, 1) := by decide +kernel
theorem dX4_start_68 : decode cX4_start 68 = .ok (.iload_n 2, 1) := by decide +kernel
theorem dX4_start_69 : decode cX4_start 69 = .ok (.iastore, 1) := by decide +kernel
theorem dX4_start_70 : decode cX4_start 70 = .ok (.aload_n 0, 1) := by decide +kernel
theorem dX4_start_71 : decode cX4_start 71 = .ok (.getfield 57, 3) := by decide +kernel
theorem dX4_start_74 : decode cX4_start 74 = .ok (.iload_n 1, 1) := by decide +kernel
theorem dX4_start_75 : decode cX4_start 75 = .ok (.iload_n 3, 1) := by decide +kernel
theorem dX4_start_76 : decode cX4_start 76 = .ok (.iastore, 1) := by decide +kernel
theorem dX4_start_77 : decode cX4_start 77 = .ok (.aload_n 0, 1) := by decide +kernel
theorem dX4_start_78 : decode cX4_start 78 = .ok (.getfield 60, 3) := by decide +kernel
theorem dX4_start_81 : decode cX4_start 81 = .ok (.iload_n 1, 1) := by decide +kernel
theorem dX4_start_82 : decode cX4_start 82 = .ok (.iload 4, 2) := by decide +kernel
theorem dX4_start_84 : decode cX4_start 84 = .ok (.iastore, 1) := by decide +kernel
theorem dX4_start_85 : decode cX4_start 85 = .ok (.aload_n 0, 1) := by decide +kernel
theorem dX4_start_86 : decode cX4_start 86 = .ok (.getfield 75, 3) := by decide +kernel
theorem dX4_start_89 : decode cX4_start 89 = .ok (.iload_n 1, 1) := by decide +kernel
theorem dX4_start_90 : decode cX4_start 90 = .ok (.iconst 0, 1) := by decide +kernel
theorem dX4_start_91 : decode cX4_start 91 = .ok (.iastore, 1) := by decide +kernel
theorem dX4_start_92 : decode cX4_start 92 = .ok (.aload_n 0, 1) := by decide +kernel
theorem dX4_start_93 : decode cX4_start 93 = .ok (.getfield 81, 3) := by decide +kernel
theorem dX4_start_96 : decode cX4_start 96 = .ok (.iload_n 1, 1) := by decide +kernel
theorem dX4_start_97 : decode cX4_start 97 = .ok (.iconst (-1), 1) := by decide +kernel
theorem dX4_start_98 : decode cX4_start 98 = .ok (.iastore, 1) := by decide +kernel
theorem dX4_start_99 : decode cX4_start 99 = .ok (.aload_n 0, 1) := by decide +kernel
theorem dX4_start_100 : decode cX4_start 100 = .ok (.getfield 84, 3) := by decide +kernel
theorem dX4_start_103 : decode cX4_start 103 = .ok (.iload_n 1, 1) := by decide +kernel
theorem dX4_start_104 : decode cX4_start 104 = .ok (.iconst (-1), 1) := by decide +kernel
theorem dX4_start_105 : decode cX4_start 105 = .ok (.iastore, 1) := by decide +kernel
theorem dX4_start_106 : decode cX4_start 106 = .ok (.aload_n 0, 1) := by decide +kernel
theorem dX4_start_107 : decode cX4_start 107 = .ok (.getfield 87, 3) := by decide +kernel
theorem dX4_start_110 : decode cX4_start 110 = .ok (.iload_n 1, 1) := by decide +kernel
theorem dX4_start_111 : decode cX4_start 111 = .ok (.iconst (-1), 1) := by decide +kernel
theorem dX4_start_112 : decode cX4_start 112 = .ok (.iastore, 1) := by decide +kernel
theorem dX4_start_113 : decode cX4_start 113 = .ok (.aload_n 0, 1) := by decide +kernel
theorem dX4_start_114 : decode cX4_start 114 = .ok (.getfield 93, 3) := by decide +kernel
theorem dX4_start_117 : decode cX4_start 117 = .ok (.iload_n 1, 1) := by decide +kernel
theorem dX4_start_118 : decode cX4_start 118 = .ok (.iconst (-1), 1) := by decide +kernel
theorem dX4_start_119 : decode cX4_start 119 = .ok (.iastore, 1) := by decide +kernel
theorem dX4_start_120 : decode cX4_start 120 = .ok (.aload_n 0, 1) := by decide +kernel
theorem dX4_start_121 : decode cX4_start 121 = .ok (.getfield 99, 3) := by decide +kernel
theorem dX4_start_124 : decode cX4_start 124 = .ok (.iload_n 1, 1) := by decide +kernel
theorem dX4_start_125 : decode cX4_start 125 = .ok (.iconst 0, 1) := by decide +kernel
theorem dX4_start_126 : decode cX4_start 126 = .ok (.bastore, 1) := by decide +kernel
theorem dX4_start_127 : decode cX4_start 127 = .ok (.iconst 1, 1) := by decide +kernel
theorem dX4_start_128 : decode cX4_start 128 = .ok (.ireturn, 1) := by decide +kernel
theorem dX4_reads_0 : decode cX4_reads 0 = .ok (.aload_n 0, 1) := by decide +kernel
theorem dX4_reads_1 : decode cX4_reads 1 = .ok (.getfield 66, 3) := by decide +kernel
theorem dX4_reads_4 : decode cX4_reads 4 = .ok (.iload_n 1, 1) := by decide +kernel
theorem dX4_reads_5 : decode cX4_reads 5 = .ok (.iaload, 1) := by decide +kernel
theorem dX4_reads_6 : decode cX4_reads 6 = .ok (.aload_n 0, 1) := by decide +kernel
theorem dX4_reads_7 : decode cX4_reads 7 = .ok (.getfield 48, 3) := by decide +kernel
theorem dX4_reads_10 : decode cX4_reads 10 = .ok (.if_icmp .ne 5, 3) := by decide +kernel
theorem dX4_reads_13 : decode cX4_reads 13 = .ok (.iconst 1, 1) := by decide +kernel
theorem dX4_reads_14 : decode cX4_reads 14 = .ok (.ireturn, 1) := by decide +kernel
theorem dX4_reads_15 : decode cX4_reads 15 = .ok (.aload_n 0, 1) := by decide +kernel
theorem dX4_reads_16 : decode cX4_reads 16 = .ok (.getfield 66, 3) := by decide +kernel
theorem dX4_reads_19 : decode cX4_reads 19 = .ok (.iload_n 1, 1) := by decide +kernel
theorem dX4_reads_20 : decode cX4_reads 20 = .ok (.aload_n 0, 1) := by decide +kernel
theorem dX4_reads_21 : decode cX4_reads 21 = .ok (.getfield 48, 3) := by decide +kernel
theorem dX4_reads_24 : decode cX4_reads 24 = .ok (.iastore, 1) := by decide +kernel
theorem dX4_reads_25 : decode cX4_reads 25 = .ok (.iconst 0, 1) := by decide +kernel
theorem dX4_reads_26 : decode cX4_reads 26 = .ok (.ireturn, 1) := by decide +kernel
theorem dX4_change_0 : decode cX4_change 0 = .ok (.aload_n 0, 1) := by decide +kernel
theorem dX4_change_1 : decode cX4_change 1 = .ok (.getfield 20, 3) := by decide +kernel
theorem dX4_change_4 : decode cX4_change 4 = .ok (.iload_n 1, 1) := by decide +kernel
theorem dX4_change_5 : decode cX4_change 5 = .ok (.iaload, 1) := by decide +kernel
theorem dX4_change_6 : decode cX4_change 6 = .ok (.iload_n 2, 1) := by decide +kernel
theorem dX4_change_7 : decode cX4_change 7 = .ok (.if_icmp .ne 12, 3) := by decide +kernel
theorem dX4_change_10 : decode cX4_change 10 = .ok (.aload_n 0, 1) := by decide +kernel
theorem dX4_change_11 : decode cX4_change 11 = .ok (.getfield 23, 3) := by decide +kernel
theorem dX4_change_14 : decode cX4_change 14 = .ok (.iload_n 1, 1) := by decide +kernel
theorem dX4_change_15 : decode cX4_change 15 = .ok (.baload, 1) := by decide +kernel
theorem dX4_change_16 : decode cX4_change 16 = .ok (.ifCond .eq 5, 3) := by decide +kernel
theorem dX4_change_19 : decode cX4_change 19 = .ok (.iconst 0, 1) := by decide +kernel
theorem dX4_change_20 : decode cX4_change 20 = .ok (.ireturn, 1) := by decide +kernel
theorem dX4_change_21 : decode cX4_change 21 = .ok (.aload_n 0, 1) := by decide +kernel
theorem dX4_change_22 : decode cX4_change 22 = .ok (.getfield 20, 3) := by decide +kernel
theorem dX4_change_25 : decode cX4_change 25 = .ok (.iload_n 1, 1) := by decide +kernel
theorem dX4_change_26 : decode cX4_change 26 = .ok (.iload_n 3, 1) := by decide +kernel
theorem dX4_change_27 : decode cX4_change 27 = .ok (.iastore, 1) := by decide +kernel
theorem dX4_change_28 : decode cX4_change 28 = .ok (.aload_n 0, 1) := by decide +kernel
theorem dX4_change_29 : decode cX4_change 29 = .ok (.getfield 23, 3) := by decide +kernel
theorem dX4_change_32 : decode cX4_change 32 = .ok (.iload_n 1, 1) := by decide +kernel
theorem dX4_change_33 : decode cX4_change 33 = .ok (.iload 4, 2) := by decide +kernel
theorem dX4_change_35 : decode cX4_change 35 = .ok (.bastore, 1) := by decide +kernel
theorem dX4_change_36 : decode cX4_change 36 = .ok (.iconst 1, 1) := by decide +kernel
theorem dX4_change_37 : decode cX4_change 37 = .ok (.ireturn, 1) := by decide +kernel
theorem dX4_retire_0 : decode cX4_retire 0 = .ok (.aload_n 0, 1) := by decide +kernel
theorem dX4_retire_1 : decode cX4_retire 1 = .ok (.getfield 13, 3) := by decide +kernel
theorem dX4_retire_4 : decode cX4_retire 4 = .ok (.iload_n 2, 1) := by decide +kernel
theorem dX4_retire_5 : decode cX4_retire 5 = .ok (.iconst 2, 1) := by decide +kernel
theorem dX4_retire_6 : decode cX4_retire 6 = .ok (.iastore, 1) := by decide +kernel
theorem dX4_retire_7 : decode cX4_retire 7 = .ok (.aload_n 0, 1) := by decide +kernel
theorem dX4_retire_8 : decode cX4_retire 8 = .ok (.getfield 36, 3) := by decide +kernel
theorem dX4_retire_11 : decode cX4_retire 11 = .ok (.iload_n 2, 1) := by decide +kernel
theorem dX4_retire_12 : decode cX4_retire 12 = .ok (.aload_n 0, 1) := by decide +kernel
theorem dX4_retire_13 : decode cX4_retire 13 = .ok (.getfield 48, 3) := by decide +kernel
theorem dX4_retire_16 : decode cX4_retire 16 = .ok (.iastore, 1) := by decide +kernel
theorem dX4_retire_17 : decode cX4_retire 17 = .ok (.aload_n 0, 1) := by decide +kernel
theorem dX4_retire_18 : decode cX4_retire 18 = .ok (.dup, 1) := by decide +kernel
theorem dX4_retire_19 : decode cX4_retire 19 = .ok (.getfield 48, 3) := by decide +kernel
theorem dX4_retire_22 : decode cX4_retire 22 = .ok (.iconst 1, 1) := by decide +kernel
theorem dX4_retire_23 : decode cX4_retire 23 = .ok (.iadd, 1) := by decide +kernel
theorem dX4_retire_24 : decode cX4_retire 24 = .ok (.putfield 48, 3) := by decide +kernel
theorem dX4_retire_27 : decode cX4_retire 27 = .ok (.aload_n 0, 1) := by decide +kernel
theorem dX4_retire_28 : decode cX4_retire 28 = .ok (.getfield 105, 3) := by decide +kernel
theorem dX4_retire_31 : decode cX4_retire 31 = .ok (.bipush 64, 2) := by decide +kernel
theorem dX4_retire_33 : decode cX4_retire 33 = .ok (.iload_n 1, 1) := by decide +kernel
theorem dX4_retire_34 : decode cX4_retire 34 = .ok (.imul, 1) := by decide +kernel
theorem dX4_retire_35 : decode cX4_retire 35 = .ok (.aload_n 0, 1) := by decide +kernel
theorem dX4_retire_36 : decode cX4_retire 36 = .ok (.getfield 108, 3) := by decide +kernel
theorem dX4_retire_39 : decode cX4_retire 39 = .ok (.iload_n 1, 1) := by decide +kernel
theorem dX4_retire_40 : decode cX4_retire 40 = .ok (.iaload, 1) := by decide +kernel
theorem dX4_retire_41 : decode cX4_retire 41 = .ok (.iadd, 1) := by decide +kernel
theorem dX4_retire_42 : decode cX4_retire 42 = .ok (.iload_n 2, 1) := by decide +kernel
theorem dX4_retire_43 : decode cX4_retire 43 = .ok (.iastore, 1) := by decide +kernel
theorem dX4_retire_44 : decode cX4_retire 44 = .ok (.aload_n 0, 1) := by decide +kernel
theorem dX4_retire_45 : decode cX4_retire 45 = .ok (.getfield 108, 3) := by decide +kernel
theorem dX4_retire_48 : decode cX4_retire 48 = .ok (.iload_n 1, 1) := by decide +kernel
theorem dX4_retire_49 : decode cX4_retire 49 = .ok (.dup2, 1) := by decide +kernel
theorem dX4_retire_50 : decode cX4_retire 50 = .ok (.iaload, 1) := by decide +kernel
theorem dX4_retire_51 : decode cX4_retire 51 = .ok (.iconst 1, 1) := by decide +kernel
theorem dX4_retire_52 : decode cX4_retire 52 = .ok (.iadd, 1) := by decide +kernel
theorem dX4_retire_53 : decode cX4_retire 53 = .ok (.iastore, 1) := by decide +kernel
theorem dX4_retire_54 : decode cX4_retire 54 = .ok (.return_, 1) := by decide +kernel
theorem dX4_ends_0 : decode cX4_ends 0 = .ok (.aload_n 0, 1) := by decide +kernel
theorem dX4_ends_1 : decode cX4_ends 1 = .ok (.getfield 111, 3) := by decide +kernel
theorem dX4_ends_4 : decode cX4_ends 4 = .ok (.iload_n 1, 1) := by decide +kernel
theorem dX4_ends_5 : decode cX4_ends 5 = .ok (.iload_n 2, 1) := by decide +kernel
theorem dX4_ends_6 : decode cX4_ends 6 = .ok (.iastore, 1) := by decide +kernel
theorem dX4_ends_7 : decode cX4_ends 7 = .ok (.aload_n 0, 1) := by decide +kernel
theorem dX4_ends_8 : decode cX4_ends 8 = .ok (.getfield 93, 3) := by decide +kernel
theorem dX4_ends_11 : decode cX4_ends 11 = .ok (.iload_n 1, 1) := by decide +kernel
theorem dX4_ends_12 : decode cX4_ends 12 = .ok (.iaload, 1) := by decide +kernel
theorem dX4_ends_13 : decode cX4_ends 13 = .ok (.ifCond .lt 15, 3) := by decide +kernel
theorem dX4_ends_16 : decode cX4_ends 16 = .ok (.aload_n 0, 1) := by decide +kernel
theorem dX4_ends_17 : decode cX4_ends 17 = .ok (.getfield 13, 3) := by decide +kernel
theorem dX4_ends_20 : decode cX4_ends 20 = .ok (.aload_n 0, 1) := by decide +kernel
theorem dX4_ends_21 : decode cX4_ends 21 = .ok (.getfield 93, 3) := by decide +kernel
theorem dX4_ends_24 : decode cX4_ends 24 = .ok (.iload_n 1, 1) := by decide +kernel
theorem dX4_ends_25 : decode cX4_ends 25 = .ok (.iaload, 1) := by decide +kernel
theorem dX4_ends_26 : decode cX4_ends 26 = .ok (.iconst 0, 1) := by decide +kernel
theorem dX4_ends_27 : decode cX4_ends 27 = .ok (.iastore, 1) := by decide +kernel
theorem dX4_ends_28 : decode cX4_ends 28 = .ok (.aload_n 0, 1) := by decide +kernel
theorem dX4_ends_29 : decode cX4_ends 29 = .ok (.getfield 93, 3) := by decide +kernel
theorem dX4_ends_32 : decode cX4_ends 32 = .ok (.iload_n 1, 1) := by decide +kernel
theorem dX4_ends_33 : decode cX4_ends 33 = .ok (.iconst (-1), 1) := by decide +kernel
theorem dX4_ends_34 : decode cX4_ends 34 = .ok (.iastore, 1) := by decide +kernel
theorem dX4_ends_35 : decode cX4_ends 35 = .ok (.aload_n 0, 1) := by decide +kernel
theorem dX4_ends_36 : decode cX4_ends 36 = .ok (.getfield 63, 3) := by decide +kernel
theorem dX4_ends_39 : decode cX4_ends 39 = .ok (.iload_n 1, 1) := by decide +kernel
theorem dX4_ends_40 : decode cX4_ends 40 = .ok (.iconst 0, 1) := by decide +kernel
theorem dX4_ends_41 : decode cX4_ends 41 = .ok (.iastore, 1) := by decide +kernel
theorem dX4_ends_42 : decode cX4_ends 42 = .ok (.aload_n 0, 1) := by decide +kernel
theorem dX4_ends_43 : decode cX4_ends 43 = .ok (.getfield 66, 3) := by decide +kernel
theorem dX4_ends_46 : decode cX4_ends 46 = .ok (.iload_n 1, 1) := by decide +kernel
theorem dX4_ends_47 : decode cX4_ends 47 = .ok (.iconst 0, 1) := by decide +kernel
theorem dX4_ends_48 : decode cX4_ends 48 = .ok (.iastore, 1) := by decide +kernel
theorem dX4_ends_49 : decode cX4_ends 49 = .ok (.aload_n 0, 1) := by decide +kernel
theorem dX4_ends_50 : decode cX4_ends 50 = .ok (.getfield 51, 3) := by decide +kernel
theorem dX4_ends_53 : decode cX4_ends 53 = .ok (.iload_n 1, 1) := by decide +kernel
theorem dX4_ends_54 : decode cX4_ends 54 = .ok (.iconst 0, 1) := by decide +kernel
theorem dX4_ends_55 : decode cX4_ends 55 = .ok (.iastore, 1) := by decide +kernel
theorem dX4_ends_56 : decode cX4_ends 56 = .ok (.aload_n 0, 1) := by decide +kernel
theorem dX4_ends_57 : decode cX4_ends 57 = .ok (.getfield 75, 3) := by decide +kernel
theorem dX4_ends_60 : decode cX4_ends 60 = .ok (.iload_n 1, 1) := by decide +kernel
theorem dX4_ends_61 : decode cX4_ends 61 = .ok (.iconst 0, 1) := by decide +kernel
theorem dX4_ends_62 : decode cX4_ends 62 = .ok (.iastore, 1) := by decide +kernel
theorem dX4_ends_63 : decode cX4_ends 63 = .ok (.return_, 1) := by decide +kernel
theorem dX4_over_0 : decode cX4_over 0 = .ok (.aload_n 0, 1) := by decide +kernel
theorem dX4_over_1 : decode cX4_over 1 = .ok (.getfield 75, 3) := by decide +kernel
theorem dX4_over_4 : decode cX4_over 4 = .ok (.iload_n 1, 1) := by decide +kernel
theorem dX4_over_5 : decode cX4_over 5 = .ok (.iaload, 1) := by decide +kernel
theorem dX4_over_6 : decode cX4_over 6 = .ok (.ifCond .le 38, 3) := by decide +kernel
theorem dX4_over_9 : decode cX4_over 9 = .ok (.aload_n 0, 1) := by decide +kernel
theorem dX4_over_10 : decode cX4_over 10 = .ok (.getfield 51, 3) := by decide +kernel
theorem dX4_over_13 : decode cX4_over 13 = .ok (.iload_n 1, 1) := by decide +kernel
theorem dX4_over_14 : decode cX4_over 14 = .ok (.bipush 7, 2) := by decide +kernel
theorem dX4_over_16 : decode cX4_over 16 = .ok (.iastore, 1) := by decide +kernel
theorem dX4_over_17 : decode cX4_over 17 = .ok (.iload_n 2, 1) := by decide +kernel
theorem dX4_over_18 : decode cX4_over 18 = .ok (.ifCond .eq 142, 3) := by decide +kernel
theorem dX4_over_21 : decode cX4_over 21 = .ok (.aload_n 0, 1) := by decide +kernel
theorem dX4_over_22 : decode cX4_over 22 = .ok (.getfield 51, 3) := by decide +kernel
theorem dX4_over_25 : decode cX4_over 25 = .ok (.iload_n 1, 1) := by decide +kernel
theorem dX4_over_26 : decode cX4_over 26 = .ok (.bipush 9, 2) := by decide +kernel
theorem dX4_over_28 : decode cX4_over 28 = .ok (.iastore, 1) := by decide +kernel
theorem dX4_over_29 : decode cX4_over 29 = .ok (.aload_n 0, 1) := by decide +kernel
theorem dX4_over_30 : decode cX4_over 30 = .ok (.getfield 96, 3) := by decide +kernel
theorem dX4_over_33 : decode cX4_over 33 = .ok (.iload_n 1, 1) := by decide +kernel
theorem dX4_over_34 : decode cX4_over 34 = .ok (.aload_n 0, 1) := by decide +kernel
theorem dX4_over_35 : decode cX4_over 35 = .ok (.getfield 84, 3) := by decide +kernel
theorem dX4_over_38 : decode cX4_over 38 = .ok (.iload_n 1, 1) := by decide +kernel
theorem dX4_over_39 : decode cX4_over 39 = .ok (.iaload, 1) := by decide +kernel
theorem dX4_over_40 : decode cX4_over 40 = .ok (.iastore, 1) := by decide +kernel
theorem dX4_over_41 : decode cX4_over 41 = .ok (.goto 119, 3) := by decide +kernel
theorem dX4_over_44 : decode cX4_over 44 = .ok (.aload_n 0, 1) := by decide +kernel
theorem dX4_over_45 : decode cX4_over 45 = .ok (.getfield 99, 3) := by decide +kernel
theorem dX4_over_48 : decode cX4_over 48 = .ok (.iload_n 1, 1) := by decide +kernel
theorem dX4_over_49 : decode cX4_over 49 = .ok (.baload, 1) := by decide +kernel
theorem dX4_over_50 : decode cX4_over 50 = .ok (.ifCond .eq 14, 3) := by decide +kernel
theorem dX4_over_53 : decode cX4_over 53 = .ok (.aload_n 0, 1) := by decide +kernel
theorem dX4_over_54 : decode cX4_over 54 = .ok (.getfield 51, 3) := by decide +kernel
theorem dX4_over_57 : decode cX4_over 57 = .ok (.iload_n 1, 1) := by decide +kernel
theorem dX4_over_58 : decode cX4_over 58 = .ok (.bipush 12, 2) := by decide +kernel
theorem dX4_over_60 : decode cX4_over 60 = .ok (.iastore, 1) := by decide +kernel
theorem dX4_over_61 : decode cX4_over 61 = .ok (.goto 99, 3) := by decide +kernel
theorem dX4_over_64 : decode cX4_over 64 = .ok (.aload_n 0, 1) := by decide +kernel
theorem dX4_over_65 : decode cX4_over 65 = .ok (.getfield 54, 3) := by decide +kernel
theorem dX4_over_68 : decode cX4_over 68 = .ok (.iload_n 1, 1) := by decide +kernel
theorem dX4_over_69 : decode cX4_over 69 = .ok (.iaload, 1) := by decide +kernel
theorem dX4_over_70 : decode cX4_over 70 = .ok (.ifCond .ne 35, 3) := by decide +kernel
theorem dX4_over_73 : decode cX4_over 73 = .ok (.iload_n 2, 1) := by decide +kernel
theorem dX4_over_74 : decode cX4_over 74 = .ok (.ifCond .eq 22, 3) := by decide +kernel
theorem dX4_over_77 : decode cX4_over 77 = .ok (.aload_n 0, 1) := by decide +kernel
theorem dX4_over_78 : decode cX4_over 78 = .ok (.iload_n 1, 1) := by decide +kernel
theorem dX4_over_79 : decode cX4_over 79 = .ok (.aload_n 0, 1) := by decide +kernel
theorem dX4_over_80 : decode cX4_over 80 = .ok (.getfield 30, 3) := by decide +kernel
theorem dX4_over_83 : decode cX4_over 83 = .ok (.aload_n 0, 1) := by decide +kernel
theorem dX4_over_84 : decode cX4_over 84 = .ok (.getfield 84, 3) := by decide +kernel
theorem dX4_over_87 : decode cX4_over 87 = .ok (.iload_n 1, 1) := by decide +kernel
theorem dX4_over_88 : decode cX4_over 88 = .ok (.iaload, 1) := by decide +kernel
theorem dX4_over_89 : decode cX4_over 89 = .ok (.iaload, 1) := by decide +kernel
theorem dX4_over_90 : decode cX4_over 90 = .ok (.invokevirtual 126, 3) := by decide +kernel
theorem dX4_over_93 : decode cX4_over 93 = .ok (.goto 67, 3) := by decide +kernel
theorem dX4_over_96 : decode cX4_over 96 = .ok (.aload_n 0, 1) := by decide +kernel
theorem dX4_over_97 : decode cX4_over 97 = .ok (.iload_n 1, 1) := by decide +kernel
theorem dX4_over_98 : decode cX4_over 98 = .ok (.iconst (-1), 1) := by decide +kernel
theorem dX4_over_99 : decode cX4_over 99 = .ok (.invokevirtual 126, 3) := by decide +kernel
theorem dX4_over_102 : decode cX4_over 102 = .ok (.goto 58, 3) := by decide +kernel
theorem dX4_over_105 : decode cX4_over 105 = .ok (.aload_n 0, 1) := by decide +kernel
theorem dX4_over_106 : decode cX4_over 106 = .ok (.getfield 54, 3) := by decide +kernel
theorem dX4_over_109 : decode cX4_over 109 = .ok (.iload_n 1, 1) := by decide +kernel
theorem dX4_over_110 : decode cX4_over 110 = .ok (.iaload, 1) := by decide +kernel
theorem dX4_over_111 : decode cX4_over 111 = .ok (.iconst 1, 1) := by decide +kernel
theorem dX4_over_112 : decode cX4_over 112 = .ok (.if_icmp .ne 27, 3) := by decide +kernel
theorem dX4_over_115 : decode cX4_over 115 = .ok (.iload_n 2, 1) := by decide +kernel
theorem dX4_over_116 : decode cX4_over 116 = .ok (.ifCond .eq 12, 3) := by decide +kernel
theorem dX4_over_119 : decode cX4_over 119 = .ok (.aload_n 0, 1) := by decide +kernel
theorem dX4_over_120 : decode cX4_over 120 = .ok (.iload_n 1, 1) := by decide +kernel
theorem dX4_over_121 : decode cX4_over 121 = .ok (.iconst 0, 1) := by decide +kernel
theorem dX4_over_122 : decode cX4_over 122 = .ok (.invokevirtual 126, 3) := by decide +kernel
theorem dX4_over_125 : decode cX4_over 125 = .ok (.goto 35, 3) := by decide +kernel
theorem dX4_over_128 : decode cX4_over 128 = .ok (.aload_n 0, 1) := by decide +kernel
theorem dX4_over_129 : decode cX4_over 129 = .ok (.getfield 51, 3) := by decide +kernel
theorem dX4_over_132 : decode cX4_over 132 = .ok (.iload_n 1, 1) := by decide +kernel
theorem dX4_over_133 : decode cX4_over 133 = .ok (.bipush 7, 2) := by decide +kernel
theorem dX4_over_135 : decode cX4_over 135 = .ok (.iastore, 1) := by decide +kernel
theorem dX4_over_136 : decode cX4_over 136 = .ok (.goto 24, 3) := by decide +kernel
theorem dX4_over_139 : decode cX4_over 139 = .ok (.iload_n 2, 1) := by decide +kernel
theorem dX4_over_140 : decode cX4_over 140 = .ok (.ifCond .eq 14, 3) := by decide +kernel
theorem dX4_over_143 : decode cX4_over 143 = .ok (.aload_n 0, 1) := by decide +kernel
theorem dX4_over_144 : decode cX4_over 144 = .ok (.getfield 51, 3) := by decide +kernel
theorem dX4_over_147 : decode cX4_over 147 = .ok (.iload_n 1, 1) := by decide +kernel
theorem dX4_over_148 : decode cX4_over 148 = .ok (.bipush 10, 2) := by decide +kernel
theorem dX4_over_150 : decode cX4_over 150 = .ok (.iastore, 1) := by decide +kernel
theorem dX4_over_151 : decode cX4_over 151 = .ok (.goto 9, 3) := by decide +kernel
theorem dX4_over_154 : decode cX4_over 154 = .ok (.aload_n 0, 1) := by decide +kernel
theorem dX4_over_155 : decode cX4_over 155 = .ok (.iload_n 1, 1) := by decide +kernel
theorem dX4_over_156 : decode cX4_over 156 = .ok (.iconst (-1), 1) := by decide +kernel
theorem dX4_over_157 : decode cX4_over 157 = .ok (.invokevirtual 126, 3) := by decide +kernel
theorem dX4_over_160 : decode cX4_over 160 = .ok (.return_, 1) := by decide +kernel
theorem dX4_look_0 : decode cX4_look 0 = .ok (.aload_n 0, 1) := by decide +kernel
theorem dX4_look_1 : decode cX4_look 1 = .ok (.getfield 84, 3) := by decide +kernel
theorem dX4_look_4 : decode cX4_look 4 = .ok (.iload_n 1, 1) := by decide +kernel
theorem dX4_look_5 : decode cX4_look 5 = .ok (.iaload, 1) := by decide +kernel
theorem dX4_look_6 : decode cX4_look 6 = .ok (.istore_n 2, 1) := by decide +kernel
theorem dX4_look_7 : decode cX4_look 7 = .ok (.aload_n 0, 1) := by decide +kernel
theorem dX4_look_8 : decode cX4_look 8 = .ok (.getfield 20, 3) := by decide +kernel
theorem dX4_look_11 : decode cX4_look 11 = .ok (.aload_n 0, 1) := by decide +kernel
theorem dX4_look_12 : decode cX4_look 12 = .ok (.getfield 81, 3) := by decide +kernel
theorem dX4_look_15 : decode cX4_look 15 = .ok (.iload_n 1, 1) := by decide +kernel
theorem dX4_look_16 : decode cX4_look 16 = .ok (.iaload, 1) := by decide +kernel
theorem dX4_look_17 : decode cX4_look 17 = .ok (.iaload, 1) := by decide +kernel
theorem dX4_look_18 : decode cX4_look 18 = .ok (.iload_n 2, 1) := by decide +kernel
theorem dX4_look_19 : decode cX4_look 19 = .ok (.if_icmp .ne 17, 3) := by decide +kernel
theorem dX4_look_22 : decode cX4_look 22 = .ok (.aload_n 0, 1) := by decide +kernel
theorem dX4_look_23 : decode cX4_look 23 = .ok (.getfield 23, 3) := by decide +kernel
theorem dX4_look_26 : decode cX4_look 26 = .ok (.aload_n 0, 1) := by decide +kernel
theorem dX4_look_27 : decode cX4_look 27 = .ok (.getfield 81, 3) := by decide +kernel
theorem dX4_look_30 : decode cX4_look 30 = .ok (.iload_n 1, 1) := by decide +kernel
theorem dX4_look_31 : decode cX4_look 31 = .ok (.iaload, 1) := by decide +kernel
theorem dX4_look_32 : decode cX4_look 32 = .ok (.baload, 1) := by decide +kernel
theorem dX4_look_33 : decode cX4_look 33 = .ok (.ifCond .eq 13, 3) := by decide +kernel
theorem dX4_look_36 : decode cX4_look 36 = .ok (.aload_n 0, 1) := by decide +kernel
theorem dX4_look_37 : decode cX4_look 37 = .ok (.getfield 51, 3) := by decide +kernel
theorem dX4_look_40 : decode cX4_look 40 = .ok (.iload_n 1, 1) := by decide +kernel
theorem dX4_look_41 : decode cX4_look 41 = .ok (.iconst 3, 1) := by decide +kernel
theorem dX4_look_42 : decode cX4_look 42 = .ok (.iastore, 1) := by decide +kernel
theorem dX4_look_43 : decode cX4_look 43 = .ok (.goto 90, 3) := by decide +kernel
theorem dX4_look_46 : decode cX4_look 46 = .ok (.aload_n 0, 1) := by decide +kernel
theorem dX4_look_47 : decode cX4_look 47 = .ok (.getfield 90, 3) := by decide +kernel
theorem dX4_look_50 : decode cX4_look 50 = .ok (.iload_n 1, 1) := by decide +kernel
theorem dX4_look_51 : decode cX4_look 51 = .ok (.baload, 1) := by decide +kernel
theorem dX4_look_52 : decode cX4_look 52 = .ok (.ifCond .eq 14, 3) := by decide +kernel
theorem dX4_look_55 : decode cX4_look 55 = .ok (.aload_n 0, 1) := by decide +kernel
theorem dX4_look_56 : decode cX4_look 56 = .ok (.getfield 51, 3) := by decide +kernel
theorem dX4_look_59 : decode cX4_look 59 = .ok (.iload_n 1, 1) := by decide +kernel
theorem dX4_look_60 : decode cX4_look 60 = .ok (.bipush 6, 2) := by decide +kernel
theorem dX4_look_62 : decode cX4_look 62 = .ok (.iastore, 1) := by decide +kernel
theorem dX4_look_63 : decode cX4_look 63 = .ok (.goto 70, 3) := by decide +kernel
theorem dX4_look_66 : decode cX4_look 66 = .ok (.aload_n 0, 1) := by decide +kernel
theorem dX4_look_67 : decode cX4_look 67 = .ok (.getfield 17, 3) := by decide +kernel
theorem dX4_look_70 : decode cX4_look 70 = .ok (.iload_n 2, 1) := by decide +kernel
theorem dX4_look_71 : decode cX4_look 71 = .ok (.iaload, 1) := by decide +kernel
theorem dX4_look_72 : decode cX4_look 72 = .ok (.aload_n 0, 1) := by decide +kernel
theorem dX4_look_73 : decode cX4_look 73 = .ok (.iload_n 1, 1) := by decide +kernel
theorem dX4_look_74 : decode cX4_look 74 = .ok (.invokevirtual 130, 3) := by decide +kernel
theorem dX4_look_77 : decode cX4_look 77 = .ok (.if_icmp .ge 32, 3) := by decide +kernel
theorem dX4_look_80 : decode cX4_look 80 = .ok (.aload_n 0, 1) := by decide +kernel
theorem dX4_look_81 : decode cX4_look 81 = .ok (.getfield 81, 3) := by decide +kernel
theorem dX4_look_84 : decode cX4_look 84 = .ok (.iload_n 1, 1) := by decide +kernel
theorem dX4_look_85 : decode cX4_look 85 = .ok (.iload_n 2, 1) := by decide +kernel
theorem dX4_look_86 : decode cX4_look 86 = .ok (.iastore, 1) := by decide +kernel
theorem dX4_look_87 : decode cX4_look 87 = .ok (.aload_n 0, 1) := by decide +kernel
theorem dX4_look_88 : decode cX4_look 88 = .ok (.getfield 84, 3) := by decide +kernel
theorem dX4_look_91 : decode cX4_look 91 = .ok (.iload_n 1, 1) := by decide +kernel
theorem dX4_look_92 : decode cX4_look 92 = .ok (.aload_n 0, 1) := by decide +kernel
theorem dX4_look_93 : decode cX4_look 93 = .ok (.getfield 87, 3) := by decide +kernel
theorem dX4_look_96 : decode cX4_look 96 = .ok (.iload_n 1, 1) := by decide +kernel
theorem dX4_look_97 : decode cX4_look 97 = .ok (.iaload, 1) := by decide +kernel
theorem dX4_look_98 : decode cX4_look 98 = .ok (.iastore, 1) := by decide +kernel
theorem dX4_look_99 : decode cX4_look 99 = .ok (.aload_n 0, 1) := by decide +kernel
theorem dX4_look_100 : decode cX4_look 100 = .ok (.getfield 51, 3) := by decide +kernel
theorem dX4_look_103 : decode cX4_look 103 = .ok (.iload_n 1, 1) := by decide +kernel
theorem dX4_look_104 : decode cX4_look 104 = .ok (.iconst 4, 1) := by decide +kernel
theorem dX4_look_105 : decode cX4_look 105 = .ok (.iastore, 1) := by decide +kernel
theorem dX4_look_106 : decode cX4_look 106 = .ok (.goto 27, 3) := by decide +kernel
theorem dX4_look_109 : decode cX4_look 109 = .ok (.aload_n 0, 1) := by decide +kernel
theorem dX4_look_110 : decode cX4_look 110 = .ok (.iload_n 1, 1) := by decide +kernel
theorem dX4_look_111 : decode cX4_look 111 = .ok (.aload_n 0, 1) := by decide +kernel
theorem dX4_look_112 : decode cX4_look 112 = .ok (.getfield 17, 3) := by decide +kernel
theorem dX4_look_115 : decode cX4_look 115 = .ok (.iload_n 2, 1) := by decide +kernel
theorem dX4_look_116 : decode cX4_look 116 = .ok (.iaload, 1) := by decide +kernel
theorem dX4_look_117 : decode cX4_look 117 = .ok (.aload_n 0, 1) := by decide +kernel
theorem dX4_look_118 : decode cX4_look 118 = .ok (.iload_n 1, 1) := by decide +kernel
theorem dX4_look_119 : decode cX4_look 119 = .ok (.invokevirtual 130, 3) := by decide +kernel
theorem dX4_look_122 : decode cX4_look 122 = .ok (.if_icmp .ne 7, 3) := by decide +kernel
theorem dX4_look_125 : decode cX4_look 125 = .ok (.iconst 1, 1) := by decide +kernel
theorem dX4_look_126 : decode cX4_look 126 = .ok (.goto 4, 3) := by decide +kernel
theorem dX4_look_129 : decode cX4_look 129 = .ok (.iconst 0, 1) := by decide +kernel
theorem dX4_look_130 : decode cX4_look 130 = .ok (.invokevirtual 133, 3) := by decide +kernel
theorem dX4_look_133 : decode cX4_look 133 = .ok (.return_, 1) := by decide +kernel
theorem dX4_prepare_0 : decode cX4_prepare 0 = .ok (.aload_n 0, 1) := by decide +kernel
theorem dX4_prepare_1 : decode cX4_prepare 1 = .ok (.getfield 93, 3) := by decide +kernel
theorem dX4_prepare_4 : decode cX4_prepare 4 = .ok (.iload_n 1, 1) := by decide +kernel
theorem dX4_prepare_5 : decode cX4_prepare 5 = .ok (.iaload, 1) := by decide +kernel
theorem dX4_prepare_6 : decode cX4_prepare 6 = .ok (.istore_n 2, 1) := by decide +kernel
theorem dX4_prepare_7 : decode cX4_prepare 7 = .ok (.iload_n 2, 1) := by decide +kernel
theorem dX4_prepare_8 : decode cX4_prepare 8 = .ok (.ifCond .ge 129, 3) := by decide +kernel
theorem dX4_prepare_11 : decode cX4_prepare 11 = .ok (.iconst 0, 1) := by decide +kernel
theorem dX4_prepare_12 : decode cX4_prepare 12 = .ok (.istore_n 2, 1) := by decide +kernel
theorem dX4_prepare_13 : decode cX4_prepare 13 = .ok (.iload_n 2, 1) := by decide +kernel
theorem dX4_prepare_14 : decode cX4_prepare 14 = .ok (.bipush 64, 2) := by decide +kernel
theorem dX4_prepare_16 : decode cX4_prepare 16 = .ok (.if_icmp .ge 18, 3) := by decide +kernel
theorem dX4_prepare_19 : decode cX4_prepare 19 = .ok (.aload_n 0, 1) := by decide +kernel
theorem dX4_prepare_20 : decode cX4_prepare 20 = .ok (.getfield 13, 3) := by decide +kernel
theorem dX4_prepare_23 : decode cX4_prepare 23 = .ok (.iload_n 2, 1) := by decide +kernel
theorem dX4_prepare_24 : decode cX4_prepare 24 = .ok (.iaload, 1) := by decide +kernel
theorem dX4_prepare_25 : decode cX4_prepare 25 = .ok (.ifCond .eq 9, 3) := by decide +kernel
theorem dX4_prepare_28 : decode cX4_prepare 28 = .ok (.iinc 2 1, 3) := by decide +kernel
theorem dX4_prepare_31 : decode cX4_prepare 31 = .ok (.goto (-18), 3) := by decide +kernel
theorem dX4_prepare_34 : decode cX4_prepare 34 = .ok (.iload_n 2, 1) := by decide +kernel
theorem dX4_prepare_35 : decode cX4_prepare 35 = .ok (.bipush 64, 2) := by decide +kernel
theorem dX4_prepare_37 : decode cX4_prepare 37 = .ok (.if_icmp .ne 11, 3) := by decide +kernel
theorem dX4_prepare_40 : decode cX4_prepare 40 = .ok (.aload_n 0, 1) := by decide +kernel
theorem dX4_prepare_41 : decode cX4_prepare 41 = .ok (.iload_n 1, 1) := by decide +kernel
theorem dX4_prepare_42 : decode cX4_prepare 42 = .ok (.bipush (-2), 2) := by decide +kernel
theorem dX4_prepare_44 : decode cX4_prepare 44 = .ok (.invokevirtual 126, 3) := by decide +kernel
theorem dX4_prepare_47 : decode cX4_prepare 47 = .ok (.return_, 1) := by decide +kernel
theorem dX4_prepare_48 : decode cX4_prepare 48 = .ok (.aload_n 0, 1) := by decide +kernel
theorem dX4_prepare_49 : decode cX4_prepare 49 = .ok (.getfield 93, 3) := by decide +kernel
theorem dX4_prepare_52 : decode cX4_prepare 52 = .ok (.iload_n 1, 1) := by decide +kernel
theorem dX4_prepare_53 : decode cX4_prepare 53 = .ok (.iload_n 2, 1) := by decide +kernel
theorem dX4_prepare_54 : decode cX4_prepare 54 = .ok (.iastore, 1) := by decide +kernel
theorem dX4_prepare_55 : decode cX4_prepare 55 = .ok (.aload_n 0, 1) := by decide +kernel
theorem dX4_prepare_56 : decode cX4_prepare 56 = .ok (.getfield 13, 3) := by decide +kernel
theorem dX4_prepare_59 : decode cX4_prepare 59 = .ok (.iload_n 2, 1) := by decide +kernel
theorem dX4_prepare_60 : decode cX4_prepare 60 = .ok (.iconst 1, 1) := by decide +kernel
theorem dX4_prepare_61 : decode cX4_prepare 61 = .ok (.iastore, 1) := by decide +kernel
theorem dX4_prepare_62 : decode cX4_prepare 62 = .ok (.aload_n 0, 1) := by decide +kernel
theorem dX4_prepare_63 : decode cX4_prepare 63 = .ok (.getfield 17, 3) := by decide +kernel
theorem dX4_prepare_66 : decode cX4_prepare 66 = .ok (.iload_n 2, 1) := by decide +kernel
theorem dX4_prepare_67 : decode cX4_prepare 67 = .ok (.aload_n 0, 1) := by decide +kernel
theorem dX4_prepare_68 : decode cX4_prepare 68 = .ok (.iload_n 1, 1) := by decide +kernel
theorem dX4_prepare_69 : decode cX4_prepare 69 = .ok (.invokevirtual 130, 3) := by decide +kernel
theorem dX4_prepare_72 : decode cX4_prepare 72 = .ok (.iastore, 1) := by decide +kernel
theorem dX4_prepare_73 : decode cX4_prepare 73 = .ok (.aload_n 0, 1) := by decide +kernel
theorem dX4_prepare_74 : decode cX4_prepare 74 = .ok (.getfield 27, 3) := by decide +kernel
theorem dX4_prepare_77 : decode cX4_prepare 77 = .ok (.iload_n 2, 1) := by decide +kernel
theorem dX4_prepare_78 : decode cX4_prepare 78 = .ok (.iconst (-1), 1) := by decide +kernel
theorem dX4_prepare_79 : decode cX4_prepare 79 = .ok (.iastore, 1) := by decide +kernel
theorem dX4_prepare_80 : decode cX4_prepare 80 = .ok (.aload_n 0, 1) := by decide +kernel
theorem dX4_prepare_81 : decode cX4_prepare 81 = .ok (.getfield 30, 3) := by decide +kernel
theorem dX4_prepare_84 : decode cX4_prepare 84 = .ok (.iload_n 2, 1) := by decide +kernel
theorem dX4_prepare_85 : decode cX4_prepare 85 = .ok (.iconst 0, 1) := by decide +kernel
theorem dX4_prepare_86 : decode cX4_prepare 86 = .ok (.iastore, 1) := by decide +kernel
theorem dX4_prepare_87 : decode cX4_prepare 87 = .ok (.aload_n 0, 1) := by decide +kernel
theorem dX4_prepare_88 : decode cX4_prepare 88 = .ok (.getfield 75, 3) := by decide +kernel
theorem dX4_prepare_91 : decode cX4_prepare 91 = .ok (.iload_n 1, 1) := by decide +kernel
theorem dX4_prepare_92 : decode cX4_prepare 92 = .ok (.iaload, 1) := by decide +kernel
theorem dX4_prepare_93 : decode cX4_prepare 93 = .ok (.ifCond .ne 27, 3) := by decide +kernel
theorem dX4_prepare_96 : decode cX4_prepare 96 = .ok (.aload_n 0, 1) := by decide +kernel
theorem dX4_prepare_97 : decode cX4_prepare 97 = .ok (.getfield 27, 3) := by decide +kernel
theorem dX4_prepare_100 : decode cX4_prepare 100 = .ok (.iload_n 2, 1) := by decide +kernel
theorem dX4_prepare_101 : decode cX4_prepare 101 = .ok (.aload_n 0, 1) := by decide +kernel
theorem dX4_prepare_102 : decode cX4_prepare 102 = .ok (.getfield 57, 3) := by decide +kernel
theorem dX4_prepare_105 : decode cX4_prepare 105 = .ok (.iload_n 1, 1) := by decide +kernel
theorem dX4_prepare_106 : decode cX4_prepare 106 = .ok (.iaload, 1) := by decide +kernel
theorem dX4_prepare_107 : decode cX4_prepare 107 = .ok (.iastore, 1) := by decide +kernel
theorem dX4_prepare_108 : decode cX4_prepare 108 = .ok (.aload_n 0, 1) := by decide +kernel
theorem dX4_prepare_109 : decode cX4_prepare 109 = .ok (.getfield 30, 3) := by decide +kernel
theorem dX4_prepare_112 : decode cX4_prepare 112 = .ok (.iload_n 2, 1) := by decide +kernel
theorem dX4_prepare_113 : decode cX4_prepare 113 = .ok (.aload_n 0, 1) := by decide +kernel
theorem dX4_prepare_114 : decode cX4_prepare 114 = .ok (.getfield 60, 3) := by decide +kernel
theorem dX4_prepare_117 : decode cX4_prepare 117 = .ok (.iload_n 1, 1) := by decide +kernel
theorem dX4_prepare_118 : decode cX4_prepare 118 = .ok (.iaload, 1) := by decide +kernel
theorem dX4_prepare_119 : decode cX4_prepare 119 = .ok (.iastore, 1) := by decide +kernel
theorem dX4_prepare_120 : decode cX4_prepare 120 = .ok (.aload_n 0, 1) := by decide +kernel
theorem dX4_prepare_121 : decode cX4_prepare 121 = .ok (.getfield 33, 3) := by decide +kernel
theorem dX4_prepare_124 : decode cX4_prepare 124 = .ok (.iload_n 2, 1) := by decide +kernel
theorem dX4_prepare_125 : decode cX4_prepare 125 = .ok (.aload_n 0, 1) := by decide +kernel
theorem dX4_prepare_126 : decode cX4_prepare 126 = .ok (.getfield 48, 3) := by decide +kernel
theorem dX4_prepare_129 : decode cX4_prepare 129 = .ok (.iastore, 1) := by decide +kernel
theorem dX4_prepare_130 : decode cX4_prepare 130 = .ok (.aload_n 0, 1) := by decide +kernel
theorem dX4_prepare_131 : decode cX4_prepare 131 = .ok (.getfield 36, 3) := by decide +kernel
theorem dX4_prepare_134 : decode cX4_prepare 134 = .ok (.iload_n 2, 1) := by decide +kernel
theorem dX4_prepare_135 : decode cX4_prepare 135 = .ok (.iconst 0, 1) := by decide +kernel
theorem dX4_prepare_136 : decode cX4_prepare 136 = .ok (.iastore, 1) := by decide +kernel
theorem dX4_prepare_137 : decode cX4_prepare 137 = .ok (.aload_n 0, 1) := by decide +kernel
theorem dX4_prepare_138 : decode cX4_prepare 138 = .ok (.getfield 20, 3) := by decide +kernel
theorem dX4_prepare_141 : decode cX4_prepare 141 = .ok (.iload_n 2, 1) := by decide +kernel
theorem dX4_prepare_142 : decode cX4_prepare 142 = .ok (.aload_n 0, 1) := by decide +kernel
theorem dX4_prepare_143 : decode cX4_prepare 143 = .ok (.getfield 84, 3) := by decide +kernel
theorem dX4_prepare_146 : decode cX4_prepare 146 = .ok (.iload_n 1, 1) := by decide +kernel
theorem dX4_prepare_147 : decode cX4_prepare 147 = .ok (.iaload, 1) := by decide +kernel
theorem dX4_prepare_148 : decode cX4_prepare 148 = .ok (.iastore, 1) := by decide +kernel
theorem dX4_prepare_149 : decode cX4_prepare 149 = .ok (.aload_n 0, 1) := by decide +kernel
theorem dX4_prepare_150 : decode cX4_prepare 150 = .ok (.getfield 23, 3) := by decide +kernel
theorem dX4_prepare_153 : decode cX4_prepare 153 = .ok (.iload_n 2, 1) := by decide +kernel
theorem dX4_prepare_154 : decode cX4_prepare 154 = .ok (.iconst 0, 1) := by decide +kernel
theorem dX4_prepare_155 : decode cX4_prepare 155 = .ok (.bastore, 1) := by decide +kernel
theorem dX4_prepare_156 : decode cX4_prepare 156 = .ok (.aload_n 0, 1) := by decide +kernel
theorem dX4_prepare_157 : decode cX4_prepare 157 = .ok (.getfield 51, 3) := by decide +kernel
theorem dX4_prepare_160 : decode cX4_prepare 160 = .ok (.iload_n 1, 1) := by decide +kernel
theorem dX4_prepare_161 : decode cX4_prepare 161 = .ok (.bipush 8, 2) := by decide +kernel
theorem dX4_prepare_163 : decode cX4_prepare 163 = .ok (.iastore, 1) := by decide +kernel
theorem dX4_prepare_164 : decode cX4_prepare 164 = .ok (.return_, 1) := by decide +kernel
theorem dX4_putIn_0 : decode cX4_putIn 0 = .ok (.aload_n 0, 1) := by decide +kernel
theorem dX4_putIn_1 : decode cX4_putIn 1 = .ok (.aload_n 0, 1) := by decide +kernel
theorem dX4_putIn_2 : decode cX4_putIn 2 = .ok (.getfield 81, 3) := by decide +kernel
theorem dX4_putIn_5 : decode cX4_putIn 5 = .ok (.iload_n 1, 1) := by decide +kernel
theorem dX4_putIn_6 : decode cX4_putIn 6 = .ok (.iaload, 1) := by decide +kernel
theorem dX4_putIn_7 : decode cX4_putIn 7 = .ok (.aload_n 0, 1) := by decide +kernel
theorem dX4_putIn_8 : decode cX4_putIn 8 = .ok (.getfield 84, 3) := by decide +kernel
theorem dX4_putIn_11 : decode cX4_putIn 11 = .ok (.iload_n 1, 1) := by decide +kernel
theorem dX4_putIn_12 : decode cX4_putIn 12 = .ok (.iaload, 1) := by decide +kernel
theorem dX4_putIn_13 : decode cX4_putIn 13 = .ok (.aload_n 0, 1) := by decide +kernel
theorem dX4_putIn_14 : decode cX4_putIn 14 = .ok (.getfield 93, 3) := by decide +kernel
theorem dX4_putIn_17 : decode cX4_putIn 17 = .ok (.iload_n 1, 1) := by decide +kernel
theorem dX4_putIn_18 : decode cX4_putIn 18 = .ok (.iaload, 1) := by decide +kernel
theorem dX4_putIn_19 : decode cX4_putIn 19 = .ok (.iconst 0, 1) := by decide +kernel
theorem dX4_putIn_20 : decode cX4_putIn 20 = .ok (.invokevirtual 137, 3) := by decide +kernel
theorem dX4_putIn_23 : decode cX4_putIn 23 = .ok (.ifCond .ne 11, 3) := by decide +kernel
theorem dX4_putIn_26 : decode cX4_putIn 26 = .ok (.aload_n 0, 1) := by decide +kernel
theorem dX4_putIn_27 : decode cX4_putIn 27 = .ok (.getfield 51, 3) := by decide +kernel
theorem dX4_putIn_30 : decode cX4_putIn 30 = .ok (.iload_n 1, 1) := by decide +kernel
theorem dX4_putIn_31 : decode cX4_putIn 31 = .ok (.iconst 3, 1) := by decide +kernel
theorem dX4_putIn_32 : decode cX4_putIn 32 = .ok (.iastore, 1) := by decide +kernel
theorem dX4_putIn_33 : decode cX4_putIn 33 = .ok (.return_, 1) := by decide +kernel
theorem dX4_putIn_34 : decode cX4_putIn 34 = .ok (.aload_n 0, 1) := by decide +kernel
theorem dX4_putIn_35 : decode cX4_putIn 35 = .ok (.getfield 96, 3) := by decide +kernel
theorem dX4_putIn_38 : decode cX4_putIn 38 = .ok (.iload_n 1, 1) := by decide +kernel
theorem dX4_putIn_39 : decode cX4_putIn 39 = .ok (.aload_n 0, 1) := by decide +kernel
theorem dX4_putIn_40 : decode cX4_putIn 40 = .ok (.getfield 93, 3) := by decide +kernel
theorem dX4_putIn_43 : decode cX4_putIn 43 = .ok (.iload_n 1, 1) := by decide +kernel
theorem dX4_putIn_44 : decode cX4_putIn 44 = .ok (.iaload, 1) := by decide +kernel
theorem dX4_putIn_45 : decode cX4_putIn 45 = .ok (.iastore, 1) := by decide +kernel
theorem dX4_putIn_46 : decode cX4_putIn 46 = .ok (.aload_n 0, 1) := by decide +kernel
theorem dX4_putIn_47 : decode cX4_putIn 47 = .ok (.getfield 93, 3) := by decide +kernel
theorem dX4_putIn_50 : decode cX4_putIn 50 = .ok (.iload_n 1, 1) := by decide +kernel
theorem dX4_putIn_51 : decode cX4_putIn 51 = .ok (.iconst (-1), 1) := by decide +kernel
theorem dX4_putIn_52 : decode cX4_putIn 52 = .ok (.iastore, 1) := by decide +kernel
theorem dX4_putIn_53 : decode cX4_putIn 53 = .ok (.aload_n 0, 1) := by decide +kernel
theorem dX4_putIn_54 : decode cX4_putIn 54 = .ok (.getfield 51, 3) := by decide +kernel
theorem dX4_putIn_57 : decode cX4_putIn 57 = .ok (.iload_n 1, 1) := by decide +kernel
theorem dX4_putIn_58 : decode cX4_putIn 58 = .ok (.bipush 9, 2) := by decide +kernel
theorem dX4_putIn_60 : decode cX4_putIn 60 = .ok (.iastore, 1) := by decide +kernel
theorem dX4_putIn_61 : decode cX4_putIn 61 = .ok (.aload_n 0, 1) := by decide +kernel
theorem dX4_putIn_62 : decode cX4_putIn 62 = .ok (.getfield 75, 3) := by decide +kernel
theorem dX4_putIn_65 : decode cX4_putIn 65 = .ok (.iload_n 1, 1) := by decide +kernel
theorem dX4_putIn_66 : decode cX4_putIn 66 = .ok (.iaload, 1) := by decide +kernel
theorem dX4_putIn_67 : decode cX4_putIn 67 = .ok (.ifCond .ne 21, 3) := by decide +kernel
theorem dX4_putIn_70 : decode cX4_putIn 70 = .ok (.aload_n 0, 1) := by decide +kernel
theorem dX4_putIn_71 : decode cX4_putIn 71 = .ok (.dup, 1) := by decide +kernel
theorem dX4_putIn_72 : decode cX4_putIn 72 = .ok (.getfield 45, 3) := by decide +kernel
theorem dX4_putIn_75 : decode cX4_putIn 75 = .ok (.iconst 1, 1) := by decide +kernel
theorem dX4_putIn_76 : decode cX4_putIn 76 = .ok (.iadd, 1) := by decide +kernel
theorem dX4_putIn_77 : decode cX4_putIn 77 = .ok (.putfield 45, 3) := by decide +kernel
theorem dX4_putIn_80 : decode cX4_putIn 80 = .ok (.aload_n 0, 1) := by decide +kernel
theorem dX4_putIn_81 : decode cX4_putIn 81 = .ok (.getfield 51, 3) := by decide +kernel
theorem dX4_putIn_84 : decode cX4_putIn 84 = .ok (.iload_n 1, 1) := by decide +kernel
theorem dX4_putIn_85 : decode cX4_putIn 85 = .ok (.bipush 13, 2) := by decide +kernel
theorem dX4_putIn_87 : decode cX4_putIn 87 = .ok (.iastore, 1) := by decide +kernel
theorem dX4_putIn_88 : decode cX4_putIn 88 = .ok (.return_, 1) := by decide +kernel
theorem dX4_giveBack_0 : decode cX4_giveBack 0 = .ok (.iconst 0, 1) := by decide +kernel
theorem dX4_giveBack_1 : decode cX4_giveBack 1 = .ok (.istore_n 2, 1) := by decide +kernel
theorem dX4_giveBack_2 : decode cX4_giveBack 2 = .ok (.iconst 0, 1) := by decide +kernel
theorem dX4_giveBack_3 : decode cX4_giveBack 3 = .ok (.istore_n 3, 1) := by decide +kernel
theorem dX4_giveBack_4 : decode cX4_giveBack 4 = .ok (.iload_n 3, 1) := by decide +kernel
theorem dX4_giveBack_5 : decode cX4_giveBack 5 = .ok (.aload_n 0, 1) := by decide +kernel
theorem dX4_giveBack_6 : decode cX4_giveBack 6 = .ok (.getfield 108, 3) := by decide +kernel
theorem dX4_giveBack_9 : decode cX4_giveBack 9 = .ok (.iload_n 1, 1) := by decide +kernel
theorem dX4_giveBack_10 : decode cX4_giveBack 10 = .ok (.iaload, 1) := by decide +kernel
theorem dX4_giveBack_11 : decode cX4_giveBack 11 = .ok (.if_icmp .ge 128, 3) := by decide +kernel
theorem dX4_giveBack_14 : decode cX4_giveBack 14 = .ok (.aload_n 0, 1) := by decide +kernel
theorem dX4_giveBack_15 : decode cX4_giveBack 15 = .ok (.getfield 105, 3) := by decide +kernel
theorem dX4_giveBack_18 : decode cX4_giveBack 18 = .ok (.bipush 64, 2) := by decide +kernel
theorem dX4_giveBack_20 : decode cX4_giveBack 20 = .ok (.iload_n 1, 1) := by decide +kernel
theorem dX4_giveBack_21 : decode cX4_giveBack 21 = .ok (.imul, 1) := by decide +kernel
theorem dX4_giveBack_22 : decode cX4_giveBack 22 = .ok (.iload_n 3, 1) := by decide +kernel
theorem dX4_giveBack_23 : decode cX4_giveBack 23 = .ok (.iadd, 1) := by decide +kernel
theorem dX4_giveBack_24 : decode cX4_giveBack 24 = .ok (.iaload, 1) := by decide +kernel
theorem dX4_giveBack_25 : decode cX4_giveBack 25 = .ok (.istore 4, 2) := by decide +kernel
theorem dX4_giveBack_27 : decode cX4_giveBack 27 = .ok (.iconst 0, 1) := by decide +kernel
theorem dX4_giveBack_28 : decode cX4_giveBack 28 = .ok (.istore 5, 2) := by decide +kernel
theorem dX4_giveBack_30 : decode cX4_giveBack 30 = .ok (.iconst 0, 1) := by decide +kernel
theorem dX4_giveBack_31 : decode cX4_giveBack 31 = .ok (.istore 6, 2) := by decide +kernel
theorem dX4_giveBack_33 : decode cX4_giveBack 33 = .ok (.iload 6, 2) := by decide +kernel
theorem dX4_giveBack_35 : decode cX4_giveBack 35 = .ok (.iconst 4, 1) := by decide +kernel
theorem dX4_giveBack_36 : decode cX4_giveBack 36 = .ok (.if_icmp .ge 65, 3) := by decide +kernel
theorem dX4_giveBack_39 : decode cX4_giveBack 39 = .ok (.iload 5, 2) := by decide +kernel
theorem dX4_giveBack_41 : decode cX4_giveBack 41 = .ok (.ifCond .ne 47, 3) := by decide +kernel
theorem dX4_giveBack_44 : decode cX4_giveBack 44 = .ok (.aload_n 0, 1) := by decide +kernel
theorem dX4_giveBack_45 : decode cX4_giveBack 45 = .ok (.getfield 51, 3) := by decide +kernel
theorem dX4_giveBack_48 : decode cX4_giveBack 48 = .ok (.iload 6, 2) := by decide +kernel
theorem dX4_giveBack_50 : decode cX4_giveBack 50 = .ok (.iaload, 1) := by decide +kernel
theorem dX4_giveBack_51 : decode cX4_giveBack 51 = .ok (.ifCond .eq 41, 3) := by decide +kernel
theorem dX4_giveBack_54 : decode cX4_giveBack 54 = .ok (.aload_n 0, 1) := by decide +kernel
theorem dX4_giveBack_55 : decode cX4_giveBack 55 = .ok (.getfield 63, 3) := by decide +kernel
theorem dX4_giveBack_58 : decode cX4_giveBack 58 = .ok (.iload 6, 2) := by decide +kernel
theorem dX4_giveBack_60 : decode cX4_giveBack 60 = .ok (.iaload, 1) := by decide +kernel
theorem dX4_giveBack_61 : decode cX4_giveBack 61 = .ok (.aload_n 0, 1) := by decide +kernel
theorem dX4_giveBack_62 : decode cX4_giveBack 62 = .ok (.getfield 36, 3) := by decide +kernel
theorem dX4_giveBack_65 : decode cX4_giveBack 65 = .ok (.iload 4, 2) := by decide +kernel
theorem dX4_giveBack_67 : decode cX4_giveBack 67 = .ok (.iaload, 1) := by decide +kernel
theorem dX4_giveBack_68 : decode cX4_giveBack 68 = .ok (.if_icmp .gt 24, 3) := by decide +kernel
theorem dX4_giveBack_71 : decode cX4_giveBack 71 = .ok (.aload_n 0, 1) := by decide +kernel
theorem dX4_giveBack_72 : decode cX4_giveBack 72 = .ok (.getfield 66, 3) := by decide +kernel
theorem dX4_giveBack_75 : decode cX4_giveBack 75 = .ok (.iload 6, 2) := by decide +kernel
theorem dX4_giveBack_77 : decode cX4_giveBack 77 = .ok (.iaload, 1) := by decide +kernel
theorem dX4_giveBack_78 : decode cX4_giveBack 78 = .ok (.aload_n 0, 1) := by decide +kernel
theorem dX4_giveBack_79 : decode cX4_giveBack 79 = .ok (.getfield 33, 3) := by decide +kernel
theorem dX4_giveBack_82 : decode cX4_giveBack 82 = .ok (.iload 4, 2) := by decide +kernel
theorem dX4_giveBack_84 : decode cX4_giveBack 84 = .ok (.iaload, 1) := by decide +kernel
theorem dX4_giveBack_85 : decode cX4_giveBack 85 = .ok (.if_icmp .lt 7, 3) := by decide +kernel
theorem dX4_giveBack_88 : decode cX4_giveBack 88 = .ok (.iconst 1, 1) := by decide +kernel
theorem dX4_giveBack_89 : decode cX4_giveBack 89 = .ok (.goto 4, 3) := by decide +kernel
theorem dX4_giveBack_92 : decode cX4_giveBack 92 = .ok (.iconst 0, 1) := by decide +kernel
theorem dX4_giveBack_93 : decode cX4_giveBack 93 = .ok (.istore 5, 2) := by decide +kernel
theorem dX4_giveBack_95 : decode cX4_giveBack 95 = .ok (.iinc 6 1, 3) := by decide +kernel
theorem dX4_giveBack_98 : decode cX4_giveBack 98 = .ok (.goto (-65), 3) := by decide +kernel
theorem dX4_giveBack_101 : decode cX4_giveBack 101 = .ok (.iload 5, 2) := by decide +kernel
theorem dX4_giveBack_103 : decode cX4_giveBack 103 = .ok (.ifCond .eq 22, 3) := by decide +kernel
theorem dX4_giveBack_106 : decode cX4_giveBack 106 = .ok (.aload_n 0, 1) := by decide +kernel
theorem dX4_giveBack_107 : decode cX4_giveBack 107 = .ok (.getfield 105, 3) := by decide +kernel
theorem dX4_giveBack_110 : decode cX4_giveBack 110 = .ok (.bipush 64, 2) := by decide +kernel
theorem dX4_giveBack_112 : decode cX4_giveBack 112 = .ok (.iload_n 1, 1) := by decide +kernel
theorem dX4_giveBack_113 : decode cX4_giveBack 113 = .ok (.imul, 1) := by decide +kernel
theorem dX4_giveBack_114 : decode cX4_giveBack 114 = .ok (.iload_n 2, 1) := by decide +kernel
theorem dX4_giveBack_115 : decode cX4_giveBack 115 = .ok (.iadd, 1) := by decide +kernel
theorem dX4_giveBack_116 : decode cX4_giveBack 116 = .ok (.iload 4, 2) := by decide +kernel
theorem dX4_giveBack_118 : decode cX4_giveBack 118 = .ok (.iastore, 1) := by decide +kernel
theorem dX4_giveBack_119 : decode cX4_giveBack 119 = .ok (.iinc 2 1, 3) := by decide +kernel
theorem dX4_giveBack_122 : decode cX4_giveBack 122 = .ok (.goto 11, 3) := by decide +kernel
theorem dX4_giveBack_125 : decode cX4_giveBack 125 = .ok (.aload_n 0, 1) := by decide +kernel
theorem dX4_giveBack_126 : decode cX4_giveBack 126 = .ok (.getfield 13, 3) := by decide +kernel
theorem dX4_giveBack_129 : decode cX4_giveBack 129 = .ok (.iload 4, 2) := by decide +kernel
theorem dX4_giveBack_131 : decode cX4_giveBack 131 = .ok (.iconst 0, 1) := by decide +kernel
theorem dX4_giveBack_132 : decode cX4_giveBack 132 = .ok (.iastore, 1) := by decide +kernel
theorem dX4_giveBack_133 : decode cX4_giveBack 133 = .ok (.iinc 3 1, 3) := by decide +kernel
theorem dX4_giveBack_136 : decode cX4_giveBack 136 = .ok (.goto (-132), 3) := by decide +kernel
theorem dX4_giveBack_139 : decode cX4_giveBack 139 = .ok (.aload_n 0, 1) := by decide +kernel
theorem dX4_giveBack_140 : decode cX4_giveBack 140 = .ok (.getfield 108, 3) := by decide +kernel
theorem dX4_giveBack_143 : decode cX4_giveBack 143 = .ok (.iload_n 1, 1) := by decide +kernel
theorem dX4_giveBack_144 : decode cX4_giveBack 144 = .ok (.iload_n 2, 1) := by decide +kernel
theorem dX4_giveBack_145 : decode cX4_giveBack 145 = .ok (.iastore, 1) := by decide +kernel
theorem dX4_giveBack_146 : decode cX4_giveBack 146 = .ok (.return_, 1) := by decide +kernel
theorem dX4_oneStep_0 : decode cX4_oneStep 0 = .ok (.aload_n 0, 1) := by decide +kernel
theorem dX4_oneStep_1 : decode cX4_oneStep 1 = .ok (.getfield 51, 3) := by decide +kernel
theorem dX4_oneStep_4 : decode cX4_oneStep 4 = .ok (.iload_n 1, 1) := by decide +kernel
theorem dX4_oneStep_5 : decode cX4_oneStep 5 = .ok (.iaload, 1) := by decide +kernel
theorem dX4_oneStep_6 : decode cX4_oneStep 6 = .ok (.istore_n 2, 1) := by decide +kernel
theorem dX4_oneStep_7 : decode cX4_oneStep 7 = .ok (.iload_n 2, 1) := by decide +kernel
theorem dX4_oneStep_8 : decode cX4_oneStep 8 = .ok (.iconst 1, 1) := by decide +kernel
theorem dX4_oneStep_9 : decode cX4_oneStep 9 = .ok (.if_icmp .ne 60, 3) := by decide +kernel
theorem dX4_oneStep_12 : decode cX4_oneStep 12 = .ok (.aload_n 0, 1) := by decide +kernel
theorem dX4_oneStep_13 : decode cX4_oneStep 13 = .ok (.getfield 63, 3) := by decide +kernel
theorem dX4_oneStep_16 : decode cX4_oneStep 16 = .ok (.iload_n 1, 1) := by decide +kernel
theorem dX4_oneStep_17 : decode cX4_oneStep 17 = .ok (.aload_n 0, 1) := by decide +kernel
theorem dX4_oneStep_18 : decode cX4_oneStep 18 = .ok (.getfield 48, 3) := by decide +kernel
theorem dX4_oneStep_21 : decode cX4_oneStep 21 = .ok (.iastore, 1) := by decide +kernel
theorem dX4_oneStep_22 : decode cX4_oneStep 22 = .ok (.aload_n 0, 1) := by decide +kernel
theorem dX4_oneStep_23 : decode cX4_oneStep 23 = .ok (.getfield 66, 3) := by decide +kernel
theorem dX4_oneStep_26 : decode cX4_oneStep 26 = .ok (.iload_n 1, 1) := by decide +kernel
theorem dX4_oneStep_27 : decode cX4_oneStep 27 = .ok (.aload_n 0, 1) := by decide +kernel
theorem dX4_oneStep_28 : decode cX4_oneStep 28 = .ok (.getfield 48, 3) := by decide +kernel
theorem dX4_oneStep_31 : decode cX4_oneStep 31 = .ok (.iastore, 1) := by decide +kernel
theorem dX4_oneStep_32 : decode cX4_oneStep 32 = .ok (.aload_n 0, 1) := by decide +kernel
theorem dX4_oneStep_33 : decode cX4_oneStep 33 = .ok (.getfield 69, 3) := by decide +kernel
theorem dX4_oneStep_36 : decode cX4_oneStep 36 = .ok (.iload_n 1, 1) := by decide +kernel
theorem dX4_oneStep_37 : decode cX4_oneStep 37 = .ok (.aload_n 0, 1) := by decide +kernel
theorem dX4_oneStep_38 : decode cX4_oneStep 38 = .ok (.getfield 57, 3) := by decide +kernel
theorem dX4_oneStep_41 : decode cX4_oneStep 41 = .ok (.iload_n 1, 1) := by decide +kernel
theorem dX4_oneStep_42 : decode cX4_oneStep 42 = .ok (.iaload, 1) := by decide +kernel
theorem dX4_oneStep_43 : decode cX4_oneStep 43 = .ok (.invokestatic 118, 3) := by decide +kernel
theorem dX4_oneStep_46 : decode cX4_oneStep 46 = .ok (.aload_n 0, 1) := by decide +kernel
theorem dX4_oneStep_47 : decode cX4_oneStep 47 = .ok (.getfield 42, 3) := by decide +kernel
theorem dX4_oneStep_50 : decode cX4_oneStep 50 = .ok (.irem, 1) := by decide +kernel
theorem dX4_oneStep_51 : decode cX4_oneStep 51 = .ok (.iastore, 1) := by decide +kernel
theorem dX4_oneStep_52 : decode cX4_oneStep 52 = .ok (.aload_n 0, 1) := by decide +kernel
theorem dX4_oneStep_53 : decode cX4_oneStep 53 = .ok (.getfield 75, 3) := by decide +kernel
theorem dX4_oneStep_56 : decode cX4_oneStep 56 = .ok (.iload_n 1, 1) := by decide +kernel
theorem dX4_oneStep_57 : decode cX4_oneStep 57 = .ok (.iconst 0, 1) := by decide +kernel
theorem dX4_oneStep_58 : decode cX4_oneStep 58 = .ok (.iastore, 1) := by decide +kernel
theorem dX4_oneStep_59 : decode cX4_oneStep 59 = .ok (.aload_n 0, 1) := by decide +kernel
theorem dX4_oneStep_60 : decode cX4_oneStep 60 = .ok (.getfield 51, 3) := by decide +kernel
theorem dX4_oneStep_63 : decode cX4_oneStep 63 = .ok (.iload_n 1, 1) := by decide +kernel
theorem dX4_oneStep_64 : decode cX4_oneStep 64 = .ok (.iconst 2, 1) := by decide +kernel
theorem dX4_oneStep_65 : decode cX4_oneStep 65 = .ok (.iastore, 1) := by decide +kernel
theorem dX4_oneStep_66 : decode cX4_oneStep 66 = .ok (.goto 660, 3) := by decide +kernel
theorem dX4_oneStep_69 : decode cX4_oneStep 69 = .ok (.iload_n 2, 1) := by decide +kernel
theorem dX4_oneStep_70 : decode cX4_oneStep 70 = .ok (.iconst 2, 1) := by decide +kernel
theorem dX4_oneStep_71 : decode cX4_oneStep 71 = .ok (.if_icmp .ne 94, 3) := by decide +kernel
theorem dX4_oneStep_74 : decode cX4_oneStep 74 = .ok (.aload_n 0, 1) := by decide +kernel
theorem dX4_oneStep_75 : decode cX4_oneStep 75 = .ok (.getfield 39, 3) := by decide +kernel
theorem dX4_oneStep_78 : decode cX4_oneStep 78 = .ok (.aload_n 0, 1) := by decide +kernel
theorem dX4_oneStep_79 : decode cX4_oneStep 79 = .ok (.getfield 69, 3) := by decide +kernel
theorem dX4_oneStep_82 : decode cX4_oneStep 82 = .ok (.iload_n 1, 1) := by decide +kernel
theorem dX4_oneStep_83 : decode cX4_oneStep 83 = .ok (.iaload, 1) := by decide +kernel
theorem dX4_oneStep_84 : decode cX4_oneStep 84 = .ok (.iaload, 1) := by decide +kernel
theorem dX4_oneStep_85 : decode cX4_oneStep 85 = .ok (.ifCond .lt 30, 3) := by decide +kernel
theorem dX4_oneStep_88 : decode cX4_oneStep 88 = .ok (.aload_n 0, 1) := by decide +kernel
theorem dX4_oneStep_89 : decode cX4_oneStep 89 = .ok (.getfield 78, 3) := by decide +kernel
theorem dX4_oneStep_92 : decode cX4_oneStep 92 = .ok (.iload_n 1, 1) := by decide +kernel
theorem dX4_oneStep_93 : decode cX4_oneStep 93 = .ok (.aload_n 0, 1) := by decide +kernel
theorem dX4_oneStep_94 : decode cX4_oneStep 94 = .ok (.getfield 39, 3) := by decide +kernel
theorem dX4_oneStep_97 : decode cX4_oneStep 97 = .ok (.aload_n 0, 1) := by decide +kernel
theorem dX4_oneStep_98 : decode cX4_oneStep 98 = .ok (.getfield 69, 3) := by decide +kernel
theorem dX4_oneStep_101 : decode cX4_oneStep 101 = .ok (.iload_n 1, 1) := by decide +kernel
theorem dX4_oneStep_102 : decode cX4_oneStep 102 = .ok (.iaload, 1) := by decide +kernel
theorem dX4_oneStep_103 : decode cX4_oneStep 103 = .ok (.iaload, 1) := by decide +kernel
theorem dX4_oneStep_104 : decode cX4_oneStep 104 = .ok (.iastore, 1) := by decide +kernel
theorem dX4_oneStep_105 : decode cX4_oneStep 105 = .ok (.aload_n 0, 1) := by decide +kernel
theorem dX4_oneStep_106 : decode cX4_oneStep 106 = .ok (.getfield 51, 3) := by decide +kernel
theorem dX4_oneStep_109 : decode cX4_oneStep 109 = .ok (.iload_n 1, 1) := by decide +kernel
theorem dX4_oneStep_110 : decode cX4_oneStep 110 = .ok (.iconst 3, 1) := by decide +kernel
theorem dX4_oneStep_111 : decode cX4_oneStep 111 = .ok (.iastore, 1) := by decide +kernel
theorem dX4_oneStep_112 : decode cX4_oneStep 112 = .ok (.goto 614, 3) := by decide +kernel
theorem dX4_oneStep_115 : decode cX4_oneStep 115 = .ok (.aload_n 0, 1) := by decide +kernel
theorem dX4_oneStep_116 : decode cX4_oneStep 116 = .ok (.getfield 72, 3) := by decide +kernel
theorem dX4_oneStep_119 : decode cX4_oneStep 119 = .ok (.bipush 16, 2) := by decide +kernel
theorem dX4_oneStep_121 : decode cX4_oneStep 121 = .ok (.iload_n 1, 1) := by decide +kernel
theorem dX4_oneStep_122 : decode cX4_oneStep 122 = .ok (.imul, 1) := by decide +kernel
theorem dX4_oneStep_123 : decode cX4_oneStep 123 = .ok (.aload_n 0, 1) := by decide +kernel
theorem dX4_oneStep_124 : decode cX4_oneStep 124 = .ok (.getfield 75, 3) := by decide +kernel
theorem dX4_oneStep_127 : decode cX4_oneStep 127 = .ok (.iload_n 1, 1) := by decide +kernel
theorem dX4_oneStep_128 : decode cX4_oneStep 128 = .ok (.iaload, 1) := by decide +kernel
theorem dX4_oneStep_129 : decode cX4_oneStep 129 = .ok (.iadd, 1) := by decide +kernel
theorem dX4_oneStep_130 : decode cX4_oneStep 130 = .ok (.aload_n 0, 1) := by decide +kernel
theorem dX4_oneStep_131 : decode cX4_oneStep 131 = .ok (.getfield 69, 3) := by decide +kernel
theorem dX4_oneStep_134 : decode cX4_oneStep 134 = .ok (.iload_n 1, 1) := by decide +kernel
theorem dX4_oneStep_135 : decode cX4_oneStep 135 = .ok (.iaload, 1) := by decide +kernel
theorem dX4_oneStep_136 : decode cX4_oneStep 136 = .ok (.iastore, 1) := by decide +kernel
theorem dX4_oneStep_137 : decode cX4_oneStep 137 = .ok (.aload_n 0, 1) := by decide +kernel
theorem dX4_oneStep_138 : decode cX4_oneStep 138 = .ok (.getfield 75, 3) := by decide +kernel
theorem dX4_oneStep_141 : decode cX4_oneStep 141 = .ok (.iload_n 1, 1) := by decide +kernel
theorem dX4_oneStep_142 : decode cX4_oneStep 142 = .ok (.dup2, 1) := by decide +kernel
theorem dX4_oneStep_143 : decode cX4_oneStep 143 = .ok (.iaload, 1) := by decide +kernel
theorem dX4_oneStep_144 : decode cX4_oneStep 144 = .ok (.iconst 1, 1) := by decide +kernel
theorem dX4_oneStep_145 : decode cX4_oneStep 145 = .ok (.iadd, 1) := by decide +kernel
theorem dX4_oneStep_146 : decode cX4_oneStep 146 = .ok (.iastore, 1) := by decide +kernel
theorem dX4_oneStep_147 : decode cX4_oneStep 147 = .ok (.aload_n 0, 1) := by decide +kernel
theorem dX4_oneStep_148 : decode cX4_oneStep 148 = .ok (.getfield 69, 3) := by decide +kernel
theorem dX4_oneStep_151 : decode cX4_oneStep 151 = .ok (.iload_n 1, 1) := by decide +kernel
theorem dX4_oneStep_152 : decode cX4_oneStep 152 = .ok (.aload_n 0, 1) := by decide +kernel
theorem dX4_oneStep_153 : decode cX4_oneStep 153 = .ok (.getfield 69, 3) := by decide +kernel
theorem dX4_oneStep_156 : decode cX4_oneStep 156 = .ok (.iload_n 1, 1) := by decide +kernel
theorem dX4_oneStep_157 : decode cX4_oneStep 157 = .ok (.iaload, 1) := by decide +kernel
theorem dX4_oneStep_158 : decode cX4_oneStep 158 = .ok (.invokestatic 141, 3) := by decide +kernel
theorem dX4_oneStep_161 : decode cX4_oneStep 161 = .ok (.iastore, 1) := by decide +kernel
theorem dX4_oneStep_162 : decode cX4_oneStep 162 = .ok (.goto 564, 3) := by decide +kernel
theorem dX4_oneStep_165 : decode cX4_oneStep 165 = .ok (.iload_n 2, 1) := by decide +kernel
theorem dX4_oneStep_166 : decode cX4_oneStep 166 = .ok (.iconst 3, 1) := by decide +kernel
theorem dX4_oneStep_167 : decode cX4_oneStep 167 = .ok (.if_icmp .ne 50, 3) := by decide +kernel
theorem dX4_oneStep_170 : decode cX4_oneStep 170 = .ok (.aload_n 0, 1) := by decide +kernel
theorem dX4_oneStep_171 : decode cX4_oneStep 171 = .ok (.iload_n 1, 1) := by decide +kernel
theorem dX4_oneStep_172 : decode cX4_oneStep 172 = .ok (.invokevirtual 144, 3) := by decide +kernel
theorem dX4_oneStep_175 : decode cX4_oneStep 175 = .ok (.ifCond .eq 551, 3) := by decide +kernel
theorem dX4_oneStep_178 : decode cX4_oneStep 178 = .ok (.aload_n 0, 1) := by decide +kernel
theorem dX4_oneStep_179 : decode cX4_oneStep 179 = .ok (.getfield 81, 3) := by decide +kernel
theorem dX4_oneStep_182 : decode cX4_oneStep 182 = .ok (.iload_n 1, 1) := by decide +kernel
theorem dX4_oneStep_183 : decode cX4_oneStep 183 = .ok (.aload_n 0, 1) := by decide +kernel
theorem dX4_oneStep_184 : decode cX4_oneStep 184 = .ok (.getfield 78, 3) := by decide +kernel
theorem dX4_oneStep_187 : decode cX4_oneStep 187 = .ok (.iload_n 1, 1) := by decide +kernel
theorem dX4_oneStep_188 : decode cX4_oneStep 188 = .ok (.iaload, 1) := by decide +kernel
theorem dX4_oneStep_189 : decode cX4_oneStep 189 = .ok (.iastore, 1) := by decide +kernel
theorem dX4_oneStep_190 : decode cX4_oneStep 190 = .ok (.aload_n 0, 1) := by decide +kernel
theorem dX4_oneStep_191 : decode cX4_oneStep 191 = .ok (.getfield 84, 3) := by decide +kernel
theorem dX4_oneStep_194 : decode cX4_oneStep 194 = .ok (.iload_n 1, 1) := by decide +kernel
theorem dX4_oneStep_195 : decode cX4_oneStep 195 = .ok (.aload_n 0, 1) := by decide +kernel
theorem dX4_oneStep_196 : decode cX4_oneStep 196 = .ok (.getfield 20, 3) := by decide +kernel
theorem dX4_oneStep_199 : decode cX4_oneStep 199 = .ok (.aload_n 0, 1) := by decide +kernel
theorem dX4_oneStep_200 : decode cX4_oneStep 200 = .ok (.getfield 78, 3) := by decide +kernel
theorem dX4_oneStep_203 : decode cX4_oneStep 203 = .ok (.iload_n 1, 1) := by decide +kernel
theorem dX4_oneStep_204 : decode cX4_oneStep 204 = .ok (.iaload, 1) := by decide +kernel
theorem dX4_oneStep_205 : decode cX4_oneStep 205 = .ok (.iaload, 1) := by decide +kernel
theorem dX4_oneStep_206 : decode cX4_oneStep 206 = .ok (.iastore, 1) := by decide +kernel
theorem dX4_oneStep_207 : decode cX4_oneStep 207 = .ok (.aload_n 0, 1) := by decide +kernel
theorem dX4_oneStep_208 : decode cX4_oneStep 208 = .ok (.getfield 51, 3) := by decide +kernel
theorem dX4_oneStep_211 : decode cX4_oneStep 211 = .ok (.iload_n 1, 1) := by decide +kernel
theorem dX4_oneStep_212 : decode cX4_oneStep 212 = .ok (.iconst 4, 1) := by decide +kernel
theorem dX4_oneStep_213 : decode cX4_oneStep 213 = .ok (.iastore, 1) := by decide +kernel
theorem dX4_oneStep_214 : decode cX4_oneStep 214 = .ok (.goto 512, 3) := by decide +kernel
theorem dX4_oneStep_217 : decode cX4_oneStep 217 = .ok (.iload_n 2, 1) := by decide +kernel
theorem dX4_oneStep_218 : decode cX4_oneStep 218 = .ok (.iconst 4, 1) := by decide +kernel
theorem dX4_oneStep_219 : decode cX4_oneStep 219 = .ok (.if_icmp .ne 73, 3) := by decide +kernel
theorem dX4_oneStep_222 : decode cX4_oneStep 222 = .ok (.aload_n 0, 1) := by decide +kernel
theorem dX4_oneStep_223 : decode cX4_oneStep 223 = .ok (.getfield 84, 3) := by decide +kernel
theorem dX4_oneStep_226 : decode cX4_oneStep 226 = .ok (.iload_n 1, 1) := by decide +kernel
theorem dX4_oneStep_227 : decode cX4_oneStep 227 = .ok (.iaload, 1) := by decide +kernel
theorem dX4_oneStep_228 : decode cX4_oneStep 228 = .ok (.ifCond .ge 12, 3) := by decide +kernel
theorem dX4_oneStep_231 : decode cX4_oneStep 231 = .ok (.aload_n 0, 1) := by decide +kernel
theorem dX4_oneStep_232 : decode cX4_oneStep 232 = .ok (.iload_n 1, 1) := by decide +kernel
theorem dX4_oneStep_233 : decode cX4_oneStep 233 = .ok (.iconst 0, 1) := by decide +kernel
theorem dX4_oneStep_234 : decode cX4_oneStep 234 = .ok (.invokevirtual 133, 3) := by decide +kernel
theorem dX4_oneStep_237 : decode cX4_oneStep 237 = .ok (.goto 489, 3) := by decide +kernel
theorem dX4_oneStep_240 : decode cX4_oneStep 240 = .ok (.aload_n 0, 1) := by decide +kernel
theorem dX4_oneStep_241 : decode cX4_oneStep 241 = .ok (.iload_n 1, 1) := by decide +kernel
theorem dX4_oneStep_242 : decode cX4_oneStep 242 = .ok (.invokevirtual 144, 3) := by decide +kernel
theorem dX4_oneStep_245 : decode cX4_oneStep 245 = .ok (.ifCond .eq 481, 3) := by decide +kernel
theorem dX4_oneStep_248 : decode cX4_oneStep 248 = .ok (.aload_n 0, 1) := by decide +kernel
theorem dX4_oneStep_249 : decode cX4_oneStep 249 = .ok (.getfield 87, 3) := by decide +kernel
theorem dX4_oneStep_252 : decode cX4_oneStep 252 = .ok (.iload_n 1, 1) := by decide +kernel
theorem dX4_oneStep_253 : decode cX4_oneStep 253 = .ok (.aload_n 0, 1) := by decide +kernel
theorem dX4_oneStep_254 : decode cX4_oneStep 254 = .ok (.getfield 20, 3) := by decide +kernel
theorem dX4_oneStep_257 : decode cX4_oneStep 257 = .ok (.aload_n 0, 1) := by decide +kernel
theorem dX4_oneStep_258 : decode cX4_oneStep 258 = .ok (.getfield 84, 3) := by decide +kernel
theorem dX4_oneStep_261 : decode cX4_oneStep 261 = .ok (.iload_n 1, 1) := by decide +kernel
theorem dX4_oneStep_262 : decode cX4_oneStep 262 = .ok (.iaload, 1) := by decide +kernel
theorem dX4_oneStep_263 : decode cX4_oneStep 263 = .ok (.iaload, 1) := by decide +kernel
theorem dX4_oneStep_264 : decode cX4_oneStep 264 = .ok (.iastore, 1) := by decide +kernel
theorem dX4_oneStep_265 : decode cX4_oneStep 265 = .ok (.aload_n 0, 1) := by decide +kernel
theorem dX4_oneStep_266 : decode cX4_oneStep 266 = .ok (.getfield 90, 3) := by decide +kernel
theorem dX4_oneStep_269 : decode cX4_oneStep 269 = .ok (.iload_n 1, 1) := by decide +kernel
theorem dX4_oneStep_270 : decode cX4_oneStep 270 = .ok (.aload_n 0, 1) := by decide +kernel
theorem dX4_oneStep_271 : decode cX4_oneStep 271 = .ok (.getfield 23, 3) := by decide +kernel
theorem dX4_oneStep_274 : decode cX4_oneStep 274 = .ok (.aload_n 0, 1) := by decide +kernel
theorem dX4_oneStep_275 : decode cX4_oneStep 275 = .ok (.getfield 84, 3) := by decide +kernel
theorem dX4_oneStep_278 : decode cX4_oneStep 278 = .ok (.iload_n 1, 1) := by decide +kernel
theorem dX4_oneStep_279 : decode cX4_oneStep 279 = .ok (.iaload, 1) := by decide +kernel
theorem dX4_oneStep_280 : decode cX4_oneStep 280 = .ok (.baload, 1) := by decide +kernel
theorem dX4_oneStep_281 : decode cX4_oneStep 281 = .ok (.bastore, 1) := by decide +kernel
theorem dX4_oneStep_282 : decode cX4_oneStep 282 = .ok (.aload_n 0, 1) := by decide +kernel
theorem dX4_oneStep_283 : decode cX4_oneStep 283 = .ok (.getfield 51, 3) := by decide +kernel
theorem dX4_oneStep_286 : decode cX4_oneStep 286 = .ok (.iload_n 1, 1) := by decide +kernel
theorem dX4_oneStep_287 : decode cX4_oneStep 287 = .ok (.iconst 5, 1) := by decide +kernel
theorem dX4_oneStep_288 : decode cX4_oneStep 288 = .ok (.iastore, 1) := by decide +kernel
theorem dX4_oneStep_289 : decode cX4_oneStep 289 = .ok (.goto 437, 3) := by decide +kernel
theorem dX4_oneStep_292 : decode cX4_oneStep 292 = .ok (.iload_n 2, 1) := by decide +kernel
theorem dX4_oneStep_293 : decode cX4_oneStep 293 = .ok (.iconst 5, 1) := by decide +kernel
theorem dX4_oneStep_294 : decode cX4_oneStep 294 = .ok (.if_icmp .ne 11, 3) := by decide +kernel
theorem dX4_oneStep_297 : decode cX4_oneStep 297 = .ok (.aload_n 0, 1) := by decide +kernel
theorem dX4_oneStep_298 : decode cX4_oneStep 298 = .ok (.iload_n 1, 1) := by decide +kernel
theorem dX4_oneStep_299 : decode cX4_oneStep 299 = .ok (.invokevirtual 148, 3) := by decide +kernel
theorem dX4_oneStep_302 : decode cX4_oneStep 302 = .ok (.goto 424, 3) := by decide +kernel
theorem dX4_oneStep_305 : decode cX4_oneStep 305 = .ok (.iload_n 2, 1) := by decide +kernel
theorem dX4_oneStep_306 : decode cX4_oneStep 306 = .ok (.bipush 6, 2) := by decide +kernel
theorem dX4_oneStep_308 : decode cX4_oneStep 308 = .ok (.if_icmp .ne 69, 3) := by decide +kernel
theorem dX4_oneStep_311 : decode cX4_oneStep 311 = .ok (.aload_n 0, 1) := by decide +kernel
theorem dX4_oneStep_312 : decode cX4_oneStep 312 = .ok (.getfield 51, 3) := by decide +kernel
theorem dX4_oneStep_315 : decode cX4_oneStep 315 = .ok (.iload_n 1, 1) := by decide +kernel
theorem dX4_oneStep_316 : decode cX4_oneStep 316 = .ok (.iconst 3, 1) := by decide +kernel
theorem dX4_oneStep_317 : decode cX4_oneStep 317 = .ok (.iastore, 1) := by decide +kernel
theorem dX4_oneStep_318 : decode cX4_oneStep 318 = .ok (.aload_n 0, 1) := by decide +kernel
theorem dX4_oneStep_319 : decode cX4_oneStep 319 = .ok (.aload_n 0, 1) := by decide +kernel
theorem dX4_oneStep_320 : decode cX4_oneStep 320 = .ok (.getfield 81, 3) := by decide +kernel
theorem dX4_oneStep_323 : decode cX4_oneStep 323 = .ok (.iload_n 1, 1) := by decide +kernel
theorem dX4_oneStep_324 : decode cX4_oneStep 324 = .ok (.iaload, 1) := by decide +kernel
theorem dX4_oneStep_325 : decode cX4_oneStep 325 = .ok (.aload_n 0, 1) := by decide +kernel
theorem dX4_oneStep_326 : decode cX4_oneStep 326 = .ok (.getfield 84, 3) := by decide +kernel
theorem dX4_oneStep_329 : decode cX4_oneStep 329 = .ok (.iload_n 1, 1) := by decide +kernel
theorem dX4_oneStep_330 : decode cX4_oneStep 330 = .ok (.iaload, 1) := by decide +kernel
theorem dX4_oneStep_331 : decode cX4_oneStep 331 = .ok (.aload_n 0, 1) := by decide +kernel
theorem dX4_oneStep_332 : decode cX4_oneStep 332 = .ok (.getfield 87, 3) := by decide +kernel
theorem dX4_oneStep_335 : decode cX4_oneStep 335 = .ok (.iload_n 1, 1) := by decide +kernel
theorem dX4_oneStep_336 : decode cX4_oneStep 336 = .ok (.iaload, 1) := by decide +kernel
theorem dX4_oneStep_337 : decode cX4_oneStep 337 = .ok (.iconst 0, 1) := by decide +kernel
theorem dX4_oneStep_338 : decode cX4_oneStep 338 = .ok (.invokevirtual 137, 3) := by decide +kernel
theorem dX4_oneStep_341 : decode cX4_oneStep 341 = .ok (.ifCond .eq 385, 3) := by decide +kernel
theorem dX4_oneStep_344 : decode cX4_oneStep 344 = .ok (.aload_n 0, 1) := by decide +kernel
theorem dX4_oneStep_345 : decode cX4_oneStep 345 = .ok (.iload_n 1, 1) := by decide +kernel
theorem dX4_oneStep_346 : decode cX4_oneStep 346 = .ok (.aload_n 0, 1) := by decide +kernel
theorem dX4_oneStep_347 : decode cX4_oneStep 347 = .ok (.getfield 84, 3) := by decide +kernel
theorem dX4_oneStep_350 : decode cX4_oneStep 350 = .ok (.iload_n 1, 1) := by decide +kernel
theorem dX4_oneStep_351 : decode cX4_oneStep 351 = .ok (.iaload, 1) := by decide +kernel
theorem dX4_oneStep_352 : decode cX4_oneStep 352 = .ok (.invokevirtual 152, 3) := by decide +kernel
theorem dX4_oneStep_355 : decode cX4_oneStep 355 = .ok (.aload_n 0, 1) := by decide +kernel
theorem dX4_oneStep_356 : decode cX4_oneStep 356 = .ok (.getfield 84, 3) := by decide +kernel
theorem dX4_oneStep_359 : decode cX4_oneStep 359 = .ok (.iload_n 1, 1) := by decide +kernel
theorem dX4_oneStep_360 : decode cX4_oneStep 360 = .ok (.aload_n 0, 1) := by decide +kernel
theorem dX4_oneStep_361 : decode cX4_oneStep 361 = .ok (.getfield 87, 3) := by decide +kernel
theorem dX4_oneStep_364 : decode cX4_oneStep 364 = .ok (.iload_n 1, 1) := by decide +kernel
theorem dX4_oneStep_365 : decode cX4_oneStep 365 = .ok (.iaload, 1) := by decide +kernel
theorem dX4_oneStep_366 : decode cX4_oneStep 366 = .ok (.iastore, 1) := by decide +kernel
theorem dX4_oneStep_367 : decode cX4_oneStep 367 = .ok (.aload_n 0, 1) := by decide +kernel
theorem dX4_oneStep_368 : decode cX4_oneStep 368 = .ok (.getfield 51, 3) := by decide +kernel
theorem dX4_oneStep_371 : decode cX4_oneStep 371 = .ok (.iload_n 1, 1) := by decide +kernel
theorem dX4_oneStep_372 : decode cX4_oneStep 372 = .ok (.iconst 4, 1) := by decide +kernel
theorem dX4_oneStep_373 : decode cX4_oneStep 373 = .ok (.iastore, 1) := by decide +kernel
theorem dX4_oneStep_374 : decode cX4_oneStep 374 = .ok (.goto 352, 3) := by decide +kernel
theorem dX4_oneStep_377 : decode cX4_oneStep 377 = .ok (.iload_n 2, 1) := by decide +kernel
theorem dX4_oneStep_378 : decode cX4_oneStep 378 = .ok (.bipush 7, 2) := by decide +kernel
theorem dX4_oneStep_380 : decode cX4_oneStep 380 = .ok (.if_icmp .ne 11, 3) := by decide +kernel
theorem dX4_oneStep_383 : decode cX4_oneStep 383 = .ok (.aload_n 0, 1) := by decide +kernel
theorem dX4_oneStep_384 : decode cX4_oneStep 384 = .ok (.iload_n 1, 1) := by decide +kernel
theorem dX4_oneStep_385 : decode cX4_oneStep 385 = .ok (.invokevirtual 155, 3) := by decide +kernel
theorem dX4_oneStep_388 : decode cX4_oneStep 388 = .ok (.goto 338, 3) := by decide +kernel
theorem dX4_oneStep_391 : decode cX4_oneStep 391 = .ok (.iload_n 2, 1) := by decide +kernel
theorem dX4_oneStep_392 : decode cX4_oneStep 392 = .ok (.bipush 8, 2) := by decide +kernel
theorem dX4_oneStep_394 : decode cX4_oneStep 394 = .ok (.if_icmp .ne 11, 3) := by decide +kernel
theorem dX4_oneStep_397 : decode cX4_oneStep 397 = .ok (.aload_n 0, 1) := by decide +kernel
theorem dX4_oneStep_398 : decode cX4_oneStep 398 = .ok (.iload_n 1, 1) := by decide +kernel
theorem dX4_oneStep_399 : decode cX4_oneStep 399 = .ok (.invokevirtual 158, 3) := by decide +kernel
theorem dX4_oneStep_402 : decode cX4_oneStep 402 = .ok (.goto 324, 3) := by decide +kernel
theorem dX4_oneStep_405 : decode cX4_oneStep 405 = .ok (.iload_n 2, 1) := by decide +kernel
theorem dX4_oneStep_406 : decode cX4_oneStep 406 = .ok (.bipush 9, 2) := by decide +kernel
theorem dX4_oneStep_408 : decode cX4_oneStep 408 = .ok (.if_icmp .ne 101, 3) := by decide +kernel
theorem dX4_oneStep_411 : decode cX4_oneStep 411 = .ok (.aload_n 0, 1) := by decide +kernel
theorem dX4_oneStep_412 : decode cX4_oneStep 412 = .ok (.getfield 93, 3) := by decide +kernel
theorem dX4_oneStep_415 : decode cX4_oneStep 415 = .ok (.iload_n 1, 1) := by decide +kernel
theorem dX4_oneStep_416 : decode cX4_oneStep 416 = .ok (.iaload, 1) := by decide +kernel
theorem dX4_oneStep_417 : decode cX4_oneStep 417 = .ok (.ifCond .lt 15, 3) := by decide +kernel
theorem dX4_oneStep_420 : decode cX4_oneStep 420 = .ok (.aload_n 0, 1) := by decide +kernel
theorem dX4_oneStep_421 : decode cX4_oneStep 421 = .ok (.getfield 13, 3) := by decide +kernel
theorem dX4_oneStep_424 : decode cX4_oneStep 424 = .ok (.aload_n 0, 1) := by decide +kernel
theorem dX4_oneStep_425 : decode cX4_oneStep 425 = .ok (.getfield 93, 3) := by decide +kernel
theorem dX4_oneStep_428 : decode cX4_oneStep 428 = .ok (.iload_n 1, 1) := by decide +kernel
theorem dX4_oneStep_429 : decode cX4_oneStep 429 = .ok (.iaload, 1) := by decide +kernel
theorem dX4_oneStep_430 : decode cX4_oneStep 430 = .ok (.iconst 0, 1) := by decide +kernel
theorem dX4_oneStep_431 : decode cX4_oneStep 431 = .ok (.iastore, 1) := by decide +kernel
theorem dX4_oneStep_432 : decode cX4_oneStep 432 = .ok (.aload_n 0, 1) := by decide +kernel
theorem dX4_oneStep_433 : decode cX4_oneStep 433 = .ok (.getfield 93, 3) := by decide +kernel
theorem dX4_oneStep_436 : decode cX4_oneStep 436 = .ok (.iload_n 1, 1) := by decide +kernel
theorem dX4_oneStep_437 : decode cX4_oneStep 437 = .ok (.iconst (-1), 1) := by decide +kernel
theorem dX4_oneStep_438 : decode cX4_oneStep 438 = .ok (.iastore, 1) := by decide +kernel
theorem dX4_oneStep_439 : decode cX4_oneStep 439 = .ok (.aload_n 0, 1) := by decide +kernel
theorem dX4_oneStep_440 : decode cX4_oneStep 440 = .ok (.getfield 75, 3) := by decide +kernel
theorem dX4_oneStep_443 : decode cX4_oneStep 443 = .ok (.iload_n 1, 1) := by decide +kernel
theorem dX4_oneStep_444 : decode cX4_oneStep 444 = .ok (.dup2, 1) := by decide +kernel
theorem dX4_oneStep_445 : decode cX4_oneStep 445 = .ok (.iaload, 1) := by decide +kernel
theorem dX4_oneStep_446 : decode cX4_oneStep 446 = .ok (.iconst 1, 1) := by decide +kernel
theorem dX4_oneStep_447 : decode cX4_oneStep 447 = .ok (.isub, 1) := by decide +kernel
theorem dX4_oneStep_448 : decode cX4_oneStep 448 = .ok (.iastore, 1) := by decide +kernel
theorem dX4_oneStep_449 : decode cX4_oneStep 449 = .ok (.aload_n 0, 1) := by decide +kernel
theorem dX4_oneStep_450 : decode cX4_oneStep 450 = .ok (.getfield 72, 3) := by decide +kernel
theorem dX4_oneStep_453 : decode cX4_oneStep 453 = .ok (.bipush 16, 2) := by decide +kernel
theorem dX4_oneStep_455 : decode cX4_oneStep 455 = .ok (.iload_n 1, 1) := by decide +kernel
theorem dX4_oneStep_456 : decode cX4_oneStep 456 = .ok (.imul, 1) := by decide +kernel
theorem dX4_oneStep_457 : decode cX4_oneStep 457 = .ok (.aload_n 0, 1) := by decide +kernel
theorem dX4_oneStep_458 : decode cX4_oneStep 458 = .ok (.getfield 75, 3) := by decide +kernel
theorem dX4_oneStep_461 : decode cX4_oneStep 461 = .ok (.iload_n 1, 1) := by decide +kernel
theorem dX4_oneStep_462 : decode cX4_oneStep 462 = .ok (.iaload, 1) := by decide +kernel
theorem dX4_oneStep_463 : decode cX4_oneStep 463 = .ok (.iadd, 1) := by decide +kernel
theorem dX4_oneStep_464 : decode cX4_oneStep 464 = .ok (.iaload, 1) := by decide +kernel
theorem dX4_oneStep_465 : decode cX4_oneStep 465 = .ok (.istore_n 3, 1) := by decide +kernel
theorem dX4_oneStep_466 : decode cX4_oneStep 466 = .ok (.aload_n 0, 1) := by decide +kernel
theorem dX4_oneStep_467 : decode cX4_oneStep 467 = .ok (.getfield 39, 3) := by decide +kernel
theorem dX4_oneStep_470 : decode cX4_oneStep 470 = .ok (.iload_n 3, 1) := by decide +kernel
theorem dX4_oneStep_471 : decode cX4_oneStep 471 = .ok (.iaload, 1) := by decide +kernel
theorem dX4_oneStep_472 : decode cX4_oneStep 472 = .ok (.ifCond .ge 15, 3) := by decide +kernel
theorem dX4_oneStep_475 : decode cX4_oneStep 475 = .ok (.aload_n 0, 1) := by decide +kernel
theorem dX4_oneStep_476 : decode cX4_oneStep 476 = .ok (.getfield 39, 3) := by decide +kernel
theorem dX4_oneStep_479 : decode cX4_oneStep 479 = .ok (.iload_n 3, 1) := by decide +kernel
theorem dX4_oneStep_480 : decode cX4_oneStep 480 = .ok (.aload_n 0, 1) := by decide +kernel
theorem dX4_oneStep_481 : decode cX4_oneStep 481 = .ok (.getfield 96, 3) := by decide +kernel
theorem dX4_oneStep_484 : decode cX4_oneStep 484 = .ok (.iload_n 1, 1) := by decide +kernel
theorem dX4_oneStep_485 : decode cX4_oneStep 485 = .ok (.iaload, 1) := by decide +kernel
theorem dX4_oneStep_486 : decode cX4_oneStep 486 = .ok (.iastore, 1) := by decide +kernel
theorem dX4_oneStep_487 : decode cX4_oneStep 487 = .ok (.aload_n 0, 1) := by decide +kernel
theorem dX4_oneStep_488 : decode cX4_oneStep 488 = .ok (.getfield 78, 3) := by decide +kernel
theorem dX4_oneStep_491 : decode cX4_oneStep 491 = .ok (.iload_n 1, 1) := by decide +kernel
theorem dX4_oneStep_492 : decode cX4_oneStep 492 = .ok (.aload_n 0, 1) := by decide +kernel
theorem dX4_oneStep_493 : decode cX4_oneStep 493 = .ok (.getfield 96, 3) := by decide +kernel
theorem dX4_oneStep_496 : decode cX4_oneStep 496 = .ok (.iload_n 1, 1) := by decide +kernel
theorem dX4_oneStep_497 : decode cX4_oneStep 497 = .ok (.iaload, 1) := by decide +kernel
theorem dX4_oneStep_498 : decode cX4_oneStep 498 = .ok (.iastore, 1) := by decide +kernel
theorem dX4_oneStep_499 : decode cX4_oneStep 499 = .ok (.aload_n 0, 1) := by decide +kernel
theorem dX4_oneStep_500 : decode cX4_oneStep 500 = .ok (.getfield 51, 3) := by decide +kernel
theorem dX4_oneStep_503 : decode cX4_oneStep 503 = .ok (.iload_n 1, 1) := by decide +kernel
theorem dX4_oneStep_504 : decode cX4_oneStep 504 = .ok (.iconst 3, 1) := by decide +kernel
theorem dX4_oneStep_505 : decode cX4_oneStep 505 = .ok (.iastore, 1) := by decide +kernel
theorem dX4_oneStep_506 : decode cX4_oneStep 506 = .ok (.goto 220, 3) := by decide +kernel
theorem dX4_oneStep_509 : decode cX4_oneStep 509 = .ok (.iload_n 2, 1) := by decide +kernel
theorem dX4_oneStep_510 : decode cX4_oneStep 510 = .ok (.bipush 10, 2) := by decide +kernel
theorem dX4_oneStep_512 : decode cX4_oneStep 512 = .ok (.if_icmp .ne 74, 3) := by decide +kernel
theorem dX4_oneStep_515 : decode cX4_oneStep 515 = .ok (.aload_n 0, 1) := by decide +kernel
theorem dX4_oneStep_516 : decode cX4_oneStep 516 = .ok (.getfield 51, 3) := by decide +kernel
theorem dX4_oneStep_519 : decode cX4_oneStep 519 = .ok (.iload_n 1, 1) := by decide +kernel
theorem dX4_oneStep_520 : decode cX4_oneStep 520 = .ok (.iconst 3, 1) := by decide +kernel
theorem dX4_oneStep_521 : decode cX4_oneStep 521 = .ok (.iastore, 1) := by decide +kernel
theorem dX4_oneStep_522 : decode cX4_oneStep 522 = .ok (.aload_n 0, 1) := by decide +kernel
theorem dX4_oneStep_523 : decode cX4_oneStep 523 = .ok (.aload_n 0, 1) := by decide +kernel
theorem dX4_oneStep_524 : decode cX4_oneStep 524 = .ok (.getfield 84, 3) := by decide +kernel
theorem dX4_oneStep_527 : decode cX4_oneStep 527 = .ok (.iload_n 1, 1) := by decide +kernel
theorem dX4_oneStep_528 : decode cX4_oneStep 528 = .ok (.iaload, 1) := by decide +kernel
theorem dX4_oneStep_529 : decode cX4_oneStep 529 = .ok (.aload_n 0, 1) := by decide +kernel
theorem dX4_oneStep_530 : decode cX4_oneStep 530 = .ok (.getfield 87, 3) := by decide +kernel
theorem dX4_oneStep_533 : decode cX4_oneStep 533 = .ok (.iload_n 1, 1) := by decide +kernel
theorem dX4_oneStep_534 : decode cX4_oneStep 534 = .ok (.iaload, 1) := by decide +kernel
theorem dX4_oneStep_535 : decode cX4_oneStep 535 = .ok (.aload_n 0, 1) := by decide +kernel
theorem dX4_oneStep_536 : decode cX4_oneStep 536 = .ok (.getfield 87, 3) := by decide +kernel
theorem dX4_oneStep_539 : decode cX4_oneStep 539 = .ok (.iload_n 1, 1) := by decide +kernel
theorem dX4_oneStep_540 : decode cX4_oneStep 540 = .ok (.iaload, 1) := by decide +kernel
theorem dX4_oneStep_541 : decode cX4_oneStep 541 = .ok (.iconst 1, 1) := by decide +kernel
theorem dX4_oneStep_542 : decode cX4_oneStep 542 = .ok (.invokevirtual 137, 3) := by decide +kernel
theorem dX4_oneStep_545 : decode cX4_oneStep 545 = .ok (.ifCond .eq 181, 3) := by decide +kernel
theorem dX4_oneStep_548 : decode cX4_oneStep 548 = .ok (.aload_n 0, 1) := by decide +kernel
theorem dX4_oneStep_549 : decode cX4_oneStep 549 = .ok (.dup, 1) := by decide +kernel
theorem dX4_oneStep_550 : decode cX4_oneStep 550 = .ok (.getfield 45, 3) := by decide +kernel
theorem dX4_oneStep_553 : decode cX4_oneStep 553 = .ok (.iconst 1, 1) := by decide +kernel
theorem dX4_oneStep_554 : decode cX4_oneStep 554 = .ok (.isub, 1) := by decide +kernel
theorem dX4_oneStep_555 : decode cX4_oneStep 555 = .ok (.putfield 45, 3) := by decide +kernel
theorem dX4_oneStep_558 : decode cX4_oneStep 558 = .ok (.aload_n 0, 1) := by decide +kernel
theorem dX4_oneStep_559 : decode cX4_oneStep 559 = .ok (.getfield 102, 3) := by decide +kernel
theorem dX4_oneStep_562 : decode cX4_oneStep 562 = .ok (.iload_n 1, 1) := by decide +kernel
theorem dX4_oneStep_563 : decode cX4_oneStep 563 = .ok (.aload_n 0, 1) := by decide +kernel
theorem dX4_oneStep_564 : decode cX4_oneStep 564 = .ok (.getfield 30, 3) := by decide +kernel
theorem dX4_oneStep_567 : decode cX4_oneStep 567 = .ok (.aload_n 0, 1) := by decide +kernel
theorem dX4_oneStep_568 : decode cX4_oneStep 568 = .ok (.getfield 84, 3) := by decide +kernel
theorem dX4_oneStep_571 : decode cX4_oneStep 571 = .ok (.iload_n 1, 1) := by decide +kernel
theorem dX4_oneStep_572 : decode cX4_oneStep 572 = .ok (.iaload, 1) := by decide +kernel
theorem dX4_oneStep_573 : decode cX4_oneStep 573 = .ok (.iaload, 1) := by decide +kernel
theorem dX4_oneStep_574 : decode cX4_oneStep 574 = .ok (.iastore, 1) := by decide +kernel
theorem dX4_oneStep_575 : decode cX4_oneStep 575 = .ok (.aload_n 0, 1) := by decide +kernel
theorem dX4_oneStep_576 : decode cX4_oneStep 576 = .ok (.getfield 51, 3) := by decide +kernel
theorem dX4_oneStep_579 : decode cX4_oneStep 579 = .ok (.iload_n 1, 1) := by decide +kernel
theorem dX4_oneStep_580 : decode cX4_oneStep 580 = .ok (.bipush 11, 2) := by decide +kernel
theorem dX4_oneStep_582 : decode cX4_oneStep 582 = .ok (.iastore, 1) := by decide +kernel
theorem dX4_oneStep_583 : decode cX4_oneStep 583 = .ok (.goto 143, 3) := by decide +kernel
theorem dX4_oneStep_586 : decode cX4_oneStep 586 = .ok (.iload_n 2, 1) := by decide +kernel
theorem dX4_oneStep_587 : decode cX4_oneStep 587 = .ok (.bipush 11, 2) := by decide +kernel
theorem dX4_oneStep_589 : decode cX4_oneStep 589 = .ok (.if_icmp .ne 68, 3) := by decide +kernel
theorem dX4_oneStep_592 : decode cX4_oneStep 592 = .ok (.aload_n 0, 1) := by decide +kernel
theorem dX4_oneStep_593 : decode cX4_oneStep 593 = .ok (.aload_n 0, 1) := by decide +kernel
theorem dX4_oneStep_594 : decode cX4_oneStep 594 = .ok (.getfield 81, 3) := by decide +kernel
theorem dX4_oneStep_597 : decode cX4_oneStep 597 = .ok (.iload_n 1, 1) := by decide +kernel
theorem dX4_oneStep_598 : decode cX4_oneStep 598 = .ok (.iaload, 1) := by decide +kernel
theorem dX4_oneStep_599 : decode cX4_oneStep 599 = .ok (.aload_n 0, 1) := by decide +kernel
theorem dX4_oneStep_600 : decode cX4_oneStep 600 = .ok (.getfield 84, 3) := by decide +kernel
theorem dX4_oneStep_603 : decode cX4_oneStep 603 = .ok (.iload_n 1, 1) := by decide +kernel
theorem dX4_oneStep_604 : decode cX4_oneStep 604 = .ok (.iaload, 1) := by decide +kernel
theorem dX4_oneStep_605 : decode cX4_oneStep 605 = .ok (.aload_n 0, 1) := by decide +kernel
theorem dX4_oneStep_606 : decode cX4_oneStep 606 = .ok (.getfield 87, 3) := by decide +kernel
theorem dX4_oneStep_609 : decode cX4_oneStep 609 = .ok (.iload_n 1, 1) := by decide +kernel
theorem dX4_oneStep_610 : decode cX4_oneStep 610 = .ok (.iaload, 1) := by decide +kernel
theorem dX4_oneStep_611 : decode cX4_oneStep 611 = .ok (.iconst 0, 1) := by decide +kernel
theorem dX4_oneStep_612 : decode cX4_oneStep 612 = .ok (.invokevirtual 137, 3) := by decide +kernel
theorem dX4_oneStep_615 : decode cX4_oneStep 615 = .ok (.ifCond .eq 25, 3) := by decide +kernel
theorem dX4_oneStep_618 : decode cX4_oneStep 618 = .ok (.aload_n 0, 1) := by decide +kernel
theorem dX4_oneStep_619 : decode cX4_oneStep 619 = .ok (.iload_n 1, 1) := by decide +kernel
theorem dX4_oneStep_620 : decode cX4_oneStep 620 = .ok (.aload_n 0, 1) := by decide +kernel
theorem dX4_oneStep_621 : decode cX4_oneStep 621 = .ok (.getfield 84, 3) := by decide +kernel
theorem dX4_oneStep_624 : decode cX4_oneStep 624 = .ok (.iload_n 1, 1) := by decide +kernel
theorem dX4_oneStep_625 : decode cX4_oneStep 625 = .ok (.iaload, 1) := by decide +kernel
theorem dX4_oneStep_626 : decode cX4_oneStep 626 = .ok (.invokevirtual 152, 3) := by decide +kernel
theorem dX4_oneStep_629 : decode cX4_oneStep 629 = .ok (.aload_n 0, 1) := by decide +kernel
theorem dX4_oneStep_630 : decode cX4_oneStep 630 = .ok (.getfield 51, 3) := by decide +kernel
theorem dX4_oneStep_633 : decode cX4_oneStep 633 = .ok (.iload_n 1, 1) := by decide +kernel
theorem dX4_oneStep_634 : decode cX4_oneStep 634 = .ok (.bipush 12, 2) := by decide +kernel
theorem dX4_oneStep_636 : decode cX4_oneStep 636 = .ok (.iastore, 1) := by decide +kernel
theorem dX4_oneStep_637 : decode cX4_oneStep 637 = .ok (.goto 89, 3) := by decide +kernel
theorem dX4_oneStep_640 : decode cX4_oneStep 640 = .ok (.aload_n 0, 1) := by decide +kernel
theorem dX4_oneStep_641 : decode cX4_oneStep 641 = .ok (.getfield 99, 3) := by decide +kernel
theorem dX4_oneStep_644 : decode cX4_oneStep 644 = .ok (.iload_n 1, 1) := by decide +kernel
theorem dX4_oneStep_645 : decode cX4_oneStep 645 = .ok (.iconst 1, 1) := by decide +kernel
theorem dX4_oneStep_646 : decode cX4_oneStep 646 = .ok (.bastore, 1) := by decide +kernel
theorem dX4_oneStep_647 : decode cX4_oneStep 647 = .ok (.aload_n 0, 1) := by decide +kernel
theorem dX4_oneStep_648 : decode cX4_oneStep 648 = .ok (.getfield 51, 3) := by decide +kernel
theorem dX4_oneStep_651 : decode cX4_oneStep 651 = .ok (.iload_n 1, 1) := by decide +kernel
theorem dX4_oneStep_652 : decode cX4_oneStep 652 = .ok (.iconst 3, 1) := by decide +kernel
theorem dX4_oneStep_653 : decode cX4_oneStep 653 = .ok (.iastore, 1) := by decide +kernel
theorem dX4_oneStep_654 : decode cX4_oneStep 654 = .ok (.goto 72, 3) := by decide +kernel
theorem dX4_oneStep_657 : decode cX4_oneStep 657 = .ok (.iload_n 2, 1) := by decide +kernel
theorem dX4_oneStep_658 : decode cX4_oneStep 658 = .ok (.bipush 12, 2) := by decide +kernel
theorem dX4_oneStep_660 : decode cX4_oneStep 660 = .ok (.if_icmp .ne 22, 3) := by decide +kernel
theorem dX4_oneStep_663 : decode cX4_oneStep 663 = .ok (.aload_n 0, 1) := by decide +kernel
theorem dX4_oneStep_664 : decode cX4_oneStep 664 = .ok (.iload_n 1, 1) := by decide +kernel
theorem dX4_oneStep_665 : decode cX4_oneStep 665 = .ok (.invokevirtual 161, 3) := by decide +kernel
theorem dX4_oneStep_668 : decode cX4_oneStep 668 = .ok (.aload_n 0, 1) := by decide +kernel
theorem dX4_oneStep_669 : decode cX4_oneStep 669 = .ok (.iload_n 1, 1) := by decide +kernel
theorem dX4_oneStep_670 : decode cX4_oneStep 670 = .ok (.aload_n 0, 1) := by decide +kernel
theorem dX4_oneStep_671 : decode cX4_oneStep 671 = .ok (.getfield 102, 3) := by decide +kernel
theorem dX4_oneStep_674 : decode cX4_oneStep 674 = .ok (.iload_n 1, 1) := by decide +kernel
theorem dX4_oneStep_675 : decode cX4_oneStep 675 = .ok (.iaload, 1) := by decide +kernel
theorem dX4_oneStep_676 : decode cX4_oneStep 676 = .ok (.invokevirtual 126, 3) := by decide +kernel
theorem dX4_oneStep_679 : decode cX4_oneStep 679 = .ok (.goto 47, 3) := by decide +kernel
theorem dX4_oneStep_682 : decode cX4_oneStep 682 = .ok (.iload_n 2, 1) := by decide +kernel
theorem dX4_oneStep_683 : decode cX4_oneStep 683 = .ok (.bipush 13, 2) := by decide +kernel
theorem dX4_oneStep_685 : decode cX4_oneStep 685 = .ok (.if_icmp .ne 41, 3) := by decide +kernel
theorem dX4_oneStep_688 : decode cX4_oneStep 688 = .ok (.aload_n 0, 1) := by decide +kernel
theorem dX4_oneStep_689 : decode cX4_oneStep 689 = .ok (.getfield 45, 3) := by decide +kernel
theorem dX4_oneStep_692 : decode cX4_oneStep 692 = .ok (.iconst 2, 1) := by decide +kernel
theorem dX4_oneStep_693 : decode cX4_oneStep 693 = .ok (.aload_n 0, 1) := by decide +kernel
theorem dX4_oneStep_694 : decode cX4_oneStep 694 = .ok (.getfield 42, 3) := by decide +kernel
theorem dX4_oneStep_697 : decode cX4_oneStep 697 = .ok (.imul, 1) := by decide +kernel
theorem dX4_oneStep_698 : decode cX4_oneStep 698 = .ok (.if_icmp .le 22, 3) := by decide +kernel
theorem dX4_oneStep_701 : decode cX4_oneStep 701 = .ok (.aload_n 0, 1) := by decide +kernel
theorem dX4_oneStep_702 : decode cX4_oneStep 702 = .ok (.getfield 42, 3) := by decide +kernel
theorem dX4_oneStep_705 : decode cX4_oneStep 705 = .ok (.bipush 16, 2) := by decide +kernel
theorem dX4_oneStep_707 : decode cX4_oneStep 707 = .ok (.if_icmp .ge 13, 3) := by decide +kernel
theorem dX4_oneStep_710 : decode cX4_oneStep 710 = .ok (.aload_n 0, 1) := by decide +kernel
theorem dX4_oneStep_711 : decode cX4_oneStep 711 = .ok (.dup, 1) := by decide +kernel
theorem dX4_oneStep_712 : decode cX4_oneStep 712 = .ok (.getfield 42, 3) := by decide +kernel
theorem dX4_oneStep_715 : decode cX4_oneStep 715 = .ok (.iconst 2, 1) := by decide +kernel
theorem dX4_oneStep_716 : decode cX4_oneStep 716 = .ok (.imul, 1) := by decide +kernel
theorem dX4_oneStep_717 : decode cX4_oneStep 717 = .ok (.putfield 42, 3) := by decide +kernel
theorem dX4_oneStep_720 : decode cX4_oneStep 720 = .ok (.aload_n 0, 1) := by decide +kernel
theorem dX4_oneStep_721 : decode cX4_oneStep 721 = .ok (.iload_n 1, 1) := by decide +kernel
theorem dX4_oneStep_722 : decode cX4_oneStep 722 = .ok (.iconst 1, 1) := by decide +kernel
theorem dX4_oneStep_723 : decode cX4_oneStep 723 = .ok (.invokevirtual 126, 3) := by decide +kernel
theorem dX4_oneStep_726 : decode cX4_oneStep 726 = .ok (.return_, 1) := by decide +kernel
theorem dX4_step_0 : decode cX4_step 0 = .ok (.aload_n 0, 1) := by decide +kernel
theorem dX4_step_1 : decode cX4_step 1 = .ok (.iconst 0, 1) := by decide +kernel
theorem dX4_step_2 : decode cX4_step 2 = .ok (.putfield 7, 3) := by decide +kernel
theorem dX4_step_5 : decode cX4_step 5 = .ok (.iload_n 1, 1) := by decide +kernel
theorem dX4_step_6 : decode cX4_step 6 = .ok (.iconst 0, 1) := by decide +kernel
theorem dX4_step_7 : decode cX4_step 7 = .ok (.iconst 3, 1) := by decide +kernel
theorem dX4_step_8 : decode cX4_step 8 = .ok (.invokestatic 121, 3) := by decide +kernel
theorem dX4_step_11 : decode cX4_step 11 = .ok (.ifCond .ne 5, 3) := by decide +kernel
theorem dX4_step_14 : decode cX4_step 14 = .ok (.iconst (-1), 1) := by decide +kernel
theorem dX4_step_15 : decode cX4_step 15 = .ok (.ireturn, 1) := by decide +kernel
theorem dX4_step_16 : decode cX4_step 16 = .ok (.aload_n 0, 1) := by decide +kernel
theorem dX4_step_17 : decode cX4_step 17 = .ok (.iload_n 1, 1) := by decide +kernel
theorem dX4_step_18 : decode cX4_step 18 = .ok (.invokevirtual 164, 3) := by decide +kernel
theorem dX4_step_21 : decode cX4_step 21 = .ok (.aload_n 0, 1) := by decide +kernel
theorem dX4_step_22 : decode cX4_step 22 = .ok (.getfield 51, 3) := by decide +kernel
theorem dX4_step_25 : decode cX4_step 25 = .ok (.iload_n 1, 1) := by decide +kernel
theorem dX4_step_26 : decode cX4_step 26 = .ok (.iaload, 1) := by decide +kernel
theorem dX4_step_27 : decode cX4_step 27 = .ok (.ireturn, 1) := by decide +kernel
theorem dX4_run_0 : decode cX4_run 0 = .ok (.aload_n 0, 1) := by decide +kernel
theorem dX4_run_1 : decode cX4_run 1 = .ok (.iconst 0, 1) := by decide +kernel
theorem dX4_run_2 : decode cX4_run 2 = .ok (.putfield 7, 3) := by decide +kernel
theorem dX4_run_5 : decode cX4_run 5 = .ok (.iload_n 1, 1) := by decide +kernel
theorem dX4_run_6 : decode cX4_run 6 = .ok (.iconst 0, 1) := by decide +kernel
theorem dX4_run_7 : decode cX4_run 7 = .ok (.iconst 3, 1) := by decide +kernel
theorem dX4_run_8 : decode cX4_run 8 = .ok (.invokestatic 121, 3) := by decide +kernel
theorem dX4_run_11 : decode cX4_run 11 = .ok (.ifCond .eq 14, 3) := by decide +kernel
theorem dX4_run_14 : decode cX4_run 14 = .ok (.iload_n 2, 1) := by decide +kernel
theorem dX4_run_15 : decode cX4_run 15 = .ok (.iconst 0, 1) := by decide +kernel
theorem dX4_run_16 : decode cX4_run 16 = .ok (.sipush 1000, 3) := by decide +kernel
theorem dX4_run_19 : decode cX4_run 19 = .ok (.invokestatic 121, 3) := by decide +kernel
theorem dX4_run_22 : decode cX4_run 22 = .ok (.ifCond .ne 5, 3) := by decide +kernel
theorem dX4_run_25 : decode cX4_run 25 = .ok (.iconst (-1), 1) := by decide +kernel
theorem dX4_run_26 : decode cX4_run 26 = .ok (.ireturn, 1) := by decide +kernel
theorem dX4_run_27 : decode cX4_run 27 = .ok (.iconst 0, 1) := by decide +kernel
theorem dX4_run_28 : decode cX4_run 28 = .ok (.istore_n 3, 1) := by decide +kernel
theorem dX4_run_29 : decode cX4_run 29 = .ok (.iload_n 3, 1) := by decide +kernel
theorem dX4_run_30 : decode cX4_run 30 = .ok (.iload_n 2, 1) := by decide +kernel
theorem dX4_run_31 : decode cX4_run 31 = .ok (.if_icmp .ge 23, 3) := by decide +kernel
theorem dX4_run_34 : decode cX4_run 34 = .ok (.aload_n 0, 1) := by decide +kernel
theorem dX4_run_35 : decode cX4_run 35 = .ok (.getfield 51, 3) := by decide +kernel
theorem dX4_run_38 : decode cX4_run 38 = .ok (.iload_n 1, 1) := by decide +kernel
theorem dX4_run_39 : decode cX4_run 39 = .ok (.iaload, 1) := by decide +kernel
theorem dX4_run_40 : decode cX4_run 40 = .ok (.ifCond .eq 14, 3) := by decide +kernel
theorem dX4_run_43 : decode cX4_run 43 = .ok (.aload_n 0, 1) := by decide +kernel
theorem dX4_run_44 : decode cX4_run 44 = .ok (.iload_n 1, 1) := by decide +kernel
theorem dX4_run_45 : decode cX4_run 45 = .ok (.invokevirtual 164, 3) := by decide +kernel
theorem dX4_run_48 : decode cX4_run 48 = .ok (.iinc 3 1, 3) := by decide +kernel
theorem dX4_run_51 : decode cX4_run 51 = .ok (.goto (-22), 3) := by decide +kernel
theorem dX4_run_54 : decode cX4_run 54 = .ok (.iload_n 3, 1) := by decide +kernel
theorem dX4_run_55 : decode cX4_run 55 = .ok (.ireturn, 1) := by decide +kernel
theorem dX4_result_0 : decode cX4_result 0 = .ok (.aload_n 0, 1) := by decide +kernel
theorem dX4_result_1 : decode cX4_result 1 = .ok (.iconst 0, 1) := by decide +kernel
theorem dX4_result_2 : decode cX4_result 2 = .ok (.putfield 7, 3) := by decide +kernel
theorem dX4_result_5 : decode cX4_result 5 = .ok (.iload_n 1, 1) := by decide +kernel
theorem dX4_result_6 : decode cX4_result 6 = .ok (.iconst 0, 1) := by decide +kernel
theorem dX4_result_7 : decode cX4_result 7 = .ok (.iconst 3, 1) := by decide +kernel
theorem dX4_result_8 : decode cX4_result 8 = .ok (.invokestatic 121, 3) := by decide +kernel
theorem dX4_result_11 : decode cX4_result 11 = .ok (.ifCond .ne 10, 3) := by decide +kernel
theorem dX4_result_14 : decode cX4_result 14 = .ok (.aload_n 0, 1) := by decide +kernel
theorem dX4_result_15 : decode cX4_result 15 = .ok (.iconst 1, 1) := by decide +kernel
theorem dX4_result_16 : decode cX4_result 16 = .ok (.putfield 7, 3) := by decide +kernel
theorem dX4_result_19 : decode cX4_result 19 = .ok (.iconst 0, 1) := by decide +kernel
theorem dX4_result_20 : decode cX4_result 20 = .ok (.ireturn, 1) := by decide +kernel
theorem dX4_result_21 : decode cX4_result 21 = .ok (.aload_n 0, 1) := by decide +kernel
theorem dX4_result_22 : decode cX4_result 22 = .ok (.getfield 111, 3) := by decide +kernel
theorem dX4_result_25 : decode cX4_result 25 = .ok (.iload_n 1, 1) := by decide +kernel
theorem dX4_result_26 : decode cX4_result 26 = .ok (.iaload, 1) := by decide +kernel
theorem dX4_result_27 : decode cX4_result 27 = .ok (.ireturn, 1) := by decide +kernel
theorem dX4_process_0 : decode cX4_process 0 = .ok (.aload_n 0, 1) := by decide +kernel
theorem dX4_process_1 : decode cX4_process 1 = .ok (.iconst 0, 1) := by decide +kernel
theorem dX4_process_2 : decode cX4_process 2 = .ok (.putfield 7, 3) := by decide +kernel
theorem dX4_process_5 : decode cX4_process 5 = .ok (.iload_n 1, 1) := by decide +kernel
theorem dX4_process_6 : decode cX4_process 6 = .ok (.istore_n 3, 1) := by decide +kernel
theorem dX4_process_7 : decode cX4_process 7 = .ok (.iload_n 3, 1) := by decide +kernel
theorem dX4_process_8 : decode cX4_process 8 = .ok (.iconst 0, 1) := by decide +kernel
theorem dX4_process_9 : decode cX4_process 9 = .ok (.iconst 3, 1) := by decide +kernel
theorem dX4_process_10 : decode cX4_process 10 = .ok (.invokestatic 121, 3) := by decide +kernel
theorem dX4_process_13 : decode cX4_process 13 = .ok (.ifCond .eq 13, 3) := by decide +kernel
theorem dX4_process_16 : decode cX4_process 16 = .ok (.iload_n 2, 1) := by decide +kernel
theorem dX4_process_17 : decode cX4_process 17 = .ok (.iconst 0, 1) := by decide +kernel
theorem dX4_process_18 : decode cX4_process 18 = .ok (.bipush 8, 2) := by decide +kernel
theorem dX4_process_20 : decode cX4_process 20 = .ok (.invokestatic 121, 3) := by decide +kernel
theorem dX4_process_23 : decode cX4_process 23 = .ok (.ifCond .ne 10, 3) := by decide +kernel
theorem dX4_process_26 : decode cX4_process 26 = .ok (.aload_n 0, 1) := by decide +kernel
theorem dX4_process_27 : decode cX4_process 27 = .ok (.iconst 1, 1) := by decide +kernel
theorem dX4_process_28 : decode cX4_process 28 = .ok (.putfield 7, 3) := by decide +kernel
theorem dX4_process_31 : decode cX4_process 31 = .ok (.iconst 0, 1) := by decide +kernel
theorem dX4_process_32 : decode cX4_process 32 = .ok (.ireturn, 1) := by decide +kernel
theorem dX4_process_33 : decode cX4_process 33 = .ok (.iload_n 2, 1) := by decide +kernel
theorem dX4_process_34 : decode cX4_process 34 = .ok (.ifCond .ne 10, 3) := by decide +kernel
theorem dX4_process_37 : decode cX4_process 37 = .ok (.aload_n 0, 1) := by decide +kernel
theorem dX4_process_38 : decode cX4_process 38 = .ok (.getfield 51, 3) := by decide +kernel
theorem dX4_process_41 : decode cX4_process 41 = .ok (.iload_n 3, 1) := by decide +kernel
theorem dX4_process_42 : decode cX4_process 42 = .ok (.iaload, 1) := by decide +kernel
theorem dX4_process_43 : decode cX4_process 43 = .ok (.ireturn, 1) := by decide +kernel
theorem dX4_process_44 : decode cX4_process 44 = .ok (.iload_n 2, 1) := by decide +kernel
theorem dX4_process_45 : decode cX4_process 45 = .ok (.iconst 1, 1) := by decide +kernel
theorem dX4_process_46 : decode cX4_process 46 = .ok (.if_icmp .ne 10, 3) := by decide +kernel
theorem dX4_process_49 : decode cX4_process 49 = .ok (.aload_n 0, 1) := by decide +kernel
theorem dX4_process_50 : decode cX4_process 50 = .ok (.getfield 63, 3) := by decide +kernel
theorem dX4_process_53 : decode cX4_process 53 = .ok (.iload_n 3, 1) := by decide +kernel
theorem dX4_process_54 : decode cX4_process 54 = .ok (.iaload, 1) := by decide +kernel
theorem dX4_process_55 : decode cX4_process 55 = .ok (.ireturn, 1) := by decide +kernel
theorem dX4_process_56 : decode cX4_process 56 = .ok (.iload_n 2, 1) := by decide +kernel
theorem dX4_process_57 : decode cX4_process 57 = .ok (.iconst 2, 1) := by decide +kernel
theorem dX4_process_58 : decode cX4_process 58 = .ok (.if_icmp .ne 10, 3) := by decide +kernel
theorem dX4_process_61 : decode cX4_process 61 = .ok (.aload_n 0, 1) := by decide +kernel
theorem dX4_process_62 : decode cX4_process 62 = .ok (.getfield 66, 3) := by decide +kernel
theorem dX4_process_65 : decode cX4_process 65 = .ok (.iload_n 3, 1) := by decide +kernel
theorem dX4_process_66 : decode cX4_process 66 = .ok (.iaload, 1) := by decide +kernel
theorem dX4_process_67 : decode cX4_process 67 = .ok (.ireturn, 1) := by decide +kernel
theorem dX4_process_68 : decode cX4_process 68 = .ok (.iload_n 2, 1) := by decide +kernel
theorem dX4_process_69 : decode cX4_process 69 = .ok (.iconst 3, 1) := by decide +kernel
theorem dX4_process_70 : decode cX4_process 70 = .ok (.if_icmp .ne 10, 3) := by decide +kernel
theorem dX4_process_73 : decode cX4_process 73 = .ok (.aload_n 0, 1) := by decide +kernel
theorem dX4_process_74 : decode cX4_process 74 = .ok (.getfield 108, 3) := by decide +kernel
theorem dX4_process_77 : decode cX4_process 77 = .ok (.iload_n 3, 1) := by decide +kernel
theorem dX4_process_78 : decode cX4_process 78 = .ok (.iaload, 1) := by decide +kernel
theorem dX4_process_79 : decode cX4_process 79 = .ok (.ireturn, 1) := by decide +kernel
theorem dX4_process_80 : decode cX4_process 80 = .ok (.iload_n 2, 1) := by decide +kernel
theorem dX4_process_81 : decode cX4_process 81 = .ok (.iconst 4, 1) := by decide +kernel
theorem dX4_process_82 : decode cX4_process 82 = .ok (.if_icmp .ne 10, 3) := by decide +kernel
theorem dX4_process_85 : decode cX4_process 85 = .ok (.aload_n 0, 1) := by decide +kernel
theorem dX4_process_86 : decode cX4_process 86 = .ok (.getfield 75, 3) := by decide +kernel
theorem dX4_process_89 : decode cX4_process 89 = .ok (.iload_n 3, 1) := by decide +kernel
theorem dX4_process_90 : decode cX4_process 90 = .ok (.iaload, 1) := by decide +kernel
theorem dX4_process_91 : decode cX4_process 91 = .ok (.ireturn, 1) := by decide +kernel
theorem dX4_process_92 : decode cX4_process 92 = .ok (.aload_n 0, 1) := by decide +kernel
theorem dX4_process_93 : decode cX4_process 93 = .ok (.getfield 51, 3) := by decide +kernel
theorem dX4_process_96 : decode cX4_process 96 = .ok (.iload_n 3, 1) := by decide +kernel
theorem dX4_process_97 : decode cX4_process 97 = .ok (.iaload, 1) := by decide +kernel
theorem dX4_process_98 : decode cX4_process 98 = .ok (.ifCond .ne 5, 3) := by decide +kernel
theorem dX4_process_101 : decode cX4_process 101 = .ok (.iconst (-1), 1) := by decide +kernel
theorem dX4_process_102 : decode cX4_process 102 = .ok (.ireturn, 1) := by decide +kernel
theorem dX4_process_103 : decode cX4_process 103 = .ok (.iload_n 2, 1) := by decide +kernel
theorem dX4_process_104 : decode cX4_process 104 = .ok (.iconst 5, 1) := by decide +kernel
theorem dX4_process_105 : decode cX4_process 105 = .ok (.if_icmp .ne 10, 3) := by decide +kernel
theorem dX4_process_108 : decode cX4_process 108 = .ok (.aload_n 0, 1) := by decide +kernel
theorem dX4_process_109 : decode cX4_process 109 = .ok (.getfield 81, 3) := by decide +kernel
theorem dX4_process_112 : decode cX4_process 112 = .ok (.iload_n 3, 1) := by decide +kernel
theorem dX4_process_113 : decode cX4_process 113 = .ok (.iaload, 1) := by decide +kernel
theorem dX4_process_114 : decode cX4_process 114 = .ok (.ireturn, 1) := by decide +kernel
theorem dX4_process_115 : decode cX4_process 115 = .ok (.iload_n 2, 1) := by decide +kernel
theorem dX4_process_116 : decode cX4_process 116 = .ok (.bipush 6, 2) := by decide +kernel
theorem dX4_process_118 : decode cX4_process 118 = .ok (.if_icmp .ne 10, 3) := by decide +kernel
theorem dX4_process_121 : decode cX4_process 121 = .ok (.aload_n 0, 1) := by decide +kernel
theorem dX4_process_122 : decode cX4_process 122 = .ok (.getfield 84, 3) := by decide +kernel
theorem dX4_process_125 : decode cX4_process 125 = .ok (.iload_n 3, 1) := by decide +kernel
theorem dX4_process_126 : decode cX4_process 126 = .ok (.iaload, 1) := by decide +kernel
theorem dX4_process_127 : decode cX4_process 127 = .ok (.ireturn, 1) := by decide +kernel
theorem dX4_process_128 : decode cX4_process 128 = .ok (.iload_n 2, 1) := by decide +kernel
theorem dX4_process_129 : decode cX4_process 129 = .ok (.bipush 7, 2) := by decide +kernel
theorem dX4_process_131 : decode cX4_process 131 = .ok (.if_icmp .ne 10, 3) := by decide +kernel
theorem dX4_process_134 : decode cX4_process 134 = .ok (.aload_n 0, 1) := by decide +kernel
theorem dX4_process_135 : decode cX4_process 135 = .ok (.getfield 87, 3) := by decide +kernel
theorem dX4_process_138 : decode cX4_process 138 = .ok (.iload_n 3, 1) := by decide +kernel
theorem dX4_process_139 : decode cX4_process 139 = .ok (.iaload, 1) := by decide +kernel
theorem dX4_process_140 : decode cX4_process 140 = .ok (.ireturn, 1) := by decide +kernel
theorem dX4_process_141 : decode cX4_process 141 = .ok (.aload_n 0, 1) := by decide +kernel
theorem dX4_process_142 : decode cX4_process 142 = .ok (.getfield 93, 3) := by decide +kernel
theorem dX4_process_145 : decode cX4_process 145 = .ok (.iload_n 3, 1) := by decide +kernel
theorem dX4_process_146 : decode cX4_process 146 = .ok (.iaload, 1) := by decide +kernel
theorem dX4_process_147 : decode cX4_process 147 = .ok (.ireturn, 1) := by decide +kernel
theorem dX4_node_0 : decode cX4_node 0 = .ok (.aload_n 0, 1) := by decide +kernel
theorem dX4_node_1 : decode cX4_node 1 = .ok (.iconst 0, 1) := by decide +kernel
theorem dX4_node_2 : decode cX4_node 2 = .ok (.putfield 7, 3) := by decide +kernel
theorem dX4_node_5 : decode cX4_node 5 = .ok (.iload_n 1, 1) := by decide +kernel
theorem dX4_node_6 : decode cX4_node 6 = .ok (.iconst 0, 1) := by decide +kernel
theorem dX4_node_7 : decode cX4_node 7 = .ok (.bipush 63, 2) := by decide +kernel
theorem dX4_node_9 : decode cX4_node 9 = .ok (.invokestatic 121, 3) := by decide +kernel
theorem dX4_node_12 : decode cX4_node 12 = .ok (.ifCond .eq 13, 3) := by decide +kernel
theorem dX4_node_15 : decode cX4_node 15 = .ok (.iload_n 2, 1) := by decide +kernel
theorem dX4_node_16 : decode cX4_node 16 = .ok (.iconst 0, 1) := by decide +kernel
theorem dX4_node_17 : decode cX4_node 17 = .ok (.bipush 7, 2) := by decide +kernel
theorem dX4_node_19 : decode cX4_node 19 = .ok (.invokestatic 121, 3) := by decide +kernel
theorem dX4_node_22 : decode cX4_node 22 = .ok (.ifCond .ne 10, 3) := by decide +kernel
theorem dX4_node_25 : decode cX4_node 25 = .ok (.aload_n 0, 1) := by decide +kernel
theorem dX4_node_26 : decode cX4_node 26 = .ok (.iconst 1, 1) := by decide +kernel
theorem dX4_node_27 : decode cX4_node 27 = .ok (.putfield 7, 3) := by decide +kernel
theorem dX4_node_30 : decode cX4_node 30 = .ok (.iconst 0, 1) := by decide +kernel
theorem dX4_node_31 : decode cX4_node 31 = .ok (.ireturn, 1) := by decide +kernel
theorem dX4_node_32 : decode cX4_node 32 = .ok (.iload_n 2, 1) := by decide +kernel
theorem dX4_node_33 : decode cX4_node 33 = .ok (.ifCond .ne 10, 3) := by decide +kernel
theorem dX4_node_36 : decode cX4_node 36 = .ok (.aload_n 0, 1) := by decide +kernel
theorem dX4_node_37 : decode cX4_node 37 = .ok (.getfield 13, 3) := by decide +kernel
theorem dX4_node_40 : decode cX4_node 40 = .ok (.iload_n 1, 1) := by decide +kernel
theorem dX4_node_41 : decode cX4_node 41 = .ok (.iaload, 1) := by decide +kernel
theorem dX4_node_42 : decode cX4_node 42 = .ok (.ireturn, 1) := by decide +kernel
theorem dX4_node_43 : decode cX4_node 43 = .ok (.iload_n 2, 1) := by decide +kernel
theorem dX4_node_44 : decode cX4_node 44 = .ok (.iconst 1, 1) := by decide +kernel
theorem dX4_node_45 : decode cX4_node 45 = .ok (.if_icmp .ne 10, 3) := by decide +kernel
theorem dX4_node_48 : decode cX4_node 48 = .ok (.aload_n 0, 1) := by decide +kernel
theorem dX4_node_49 : decode cX4_node 49 = .ok (.getfield 17, 3) := by decide +kernel
theorem dX4_node_52 : decode cX4_node 52 = .ok (.iload_n 1, 1) := by decide +kernel
theorem dX4_node_53 : decode cX4_node 53 = .ok (.iaload, 1) := by decide +kernel
theorem dX4_node_54 : decode cX4_node 54 = .ok (.ireturn, 1) := by decide +kernel
theorem dX4_node_55 : decode cX4_node 55 = .ok (.iload_n 2, 1) := by decide +kernel
theorem dX4_node_56 : decode cX4_node 56 = .ok (.iconst 2, 1) := by decide +kernel
theorem dX4_node_57 : decode cX4_node 57 = .ok (.if_icmp .ne 10, 3) := by decide +kernel
theorem dX4_node_60 : decode cX4_node 60 = .ok (.aload_n 0, 1) := by decide +kernel
theorem dX4_node_61 : decode cX4_node 61 = .ok (.getfield 20, 3) := by decide +kernel
theorem dX4_node_64 : decode cX4_node 64 = .ok (.iload_n 1, 1) := by decide +kernel
theorem dX4_node_65 : decode cX4_node 65 = .ok (.iaload, 1) := by decide +kernel
theorem dX4_node_66 : decode cX4_node 66 = .ok (.ireturn, 1) := by decide +kernel
theorem dX4_node_67 : decode cX4_node 67 = .ok (.iload_n 2, 1) := by decide +kernel
theorem dX4_node_68 : decode cX4_node 68 = .ok (.iconst 4, 1) := by decide +kernel
theorem dX4_node_69 : decode cX4_node 69 = .ok (.if_icmp .ne 10, 3) := by decide +kernel
theorem dX4_node_72 : decode cX4_node 72 = .ok (.aload_n 0, 1) := by decide +kernel
theorem dX4_node_73 : decode cX4_node 73 = .ok (.getfield 27, 3) := by decide +kernel
theorem dX4_node_76 : decode cX4_node 76 = .ok (.iload_n 1, 1) := by decide +kernel
theorem dX4_node_77 : decode cX4_node 77 = .ok (.iaload, 1) := by decide +kernel
theorem dX4_node_78 : decode cX4_node 78 = .ok (.ireturn, 1) := by decide +kernel
theorem dX4_node_79 : decode cX4_node 79 = .ok (.iload_n 2, 1) := by decide +kernel
theorem dX4_node_80 : decode cX4_node 80 = .ok (.iconst 5, 1) := by decide +kernel
theorem dX4_node_81 : decode cX4_node 81 = .ok (.if_icmp .ne 10, 3) := by decide +kernel
theorem dX4_node_84 : decode cX4_node 84 = .ok (.aload_n 0, 1) := by decide +kernel
theorem dX4_node_85 : decode cX4_node 85 = .ok (.getfield 30, 3) := by decide +kernel
theorem dX4_node_88 : decode cX4_node 88 = .ok (.iload_n 1, 1) := by decide +kernel
theorem dX4_node_89 : decode cX4_node 89 = .ok (.iaload, 1) := by decide +kernel
theorem dX4_node_90 : decode cX4_node 90 = .ok (.ireturn, 1) := by decide +kernel
theorem dX4_node_91 : decode cX4_node 91 = .ok (.iload_n 2, 1) := by decide +kernel
theorem dX4_node_92 : decode cX4_node 92 = .ok (.bipush 6, 2) := by decide +kernel
theorem dX4_node_94 : decode cX4_node 94 = .ok (.if_icmp .ne 10, 3) := by decide +kernel
theorem dX4_node_97 : decode cX4_node 97 = .ok (.aload_n 0, 1) := by decide +kernel
theorem dX4_node_98 : decode cX4_node 98 = .ok (.getfield 33, 3) := by decide +kernel
theorem dX4_node_101 : decode cX4_node 101 = .ok (.iload_n 1, 1) := by decide +kernel
theorem dX4_node_102 : decode cX4_node 102 = .ok (.iaload, 1) := by decide +kernel
theorem dX4_node_103 : decode cX4_node 103 = .ok (.ireturn, 1) := by decide +kernel
theorem dX4_node_104 : decode cX4_node 104 = .ok (.iload_n 2, 1) := by decide +kernel
theorem dX4_node_105 : decode cX4_node 105 = .ok (.bipush 7, 2) := by decide +kernel
theorem dX4_node_107 : decode cX4_node 107 = .ok (.if_icmp .ne 10, 3) := by decide +kernel
theorem dX4_node_110 : decode cX4_node 110 = .ok (.aload_n 0, 1) := by decide +kernel
theorem dX4_node_111 : decode cX4_node 111 = .ok (.getfield 36, 3) := by decide +kernel
theorem dX4_node_114 : decode cX4_node 114 = .ok (.iload_n 1, 1) := by decide +kernel
theorem dX4_node_115 : decode cX4_node 115 = .ok (.iaload, 1) := by decide +kernel
theorem dX4_node_116 : decode cX4_node 116 = .ok (.ireturn, 1) := by decide +kernel
theorem dX4_node_117 : decode cX4_node 117 = .ok (.aload_n 0, 1) := by decide +kernel
theorem dX4_node_118 : decode cX4_node 118 = .ok (.getfield 23, 3) := by decide +kernel
theorem dX4_node_121 : decode cX4_node 121 = .ok (.iload_n 1, 1) := by decide +kernel
theorem dX4_node_122 : decode cX4_node 122 = .ok (.baload, 1) := by decide +kernel
theorem dX4_node_123 : decode cX4_node 123 = .ok (.ifCond .eq 5, 3) := by decide +kernel
theorem dX4_node_126 : decode cX4_node 126 = .ok (.iconst 1, 1) := by decide +kernel
theorem dX4_node_127 : decode cX4_node 127 = .ok (.ireturn, 1) := by decide +kernel
theorem dX4_node_128 : decode cX4_node 128 = .ok (.iconst 0, 1) := by decide +kernel
theorem dX4_node_129 : decode cX4_node 129 = .ok (.ireturn, 1) := by decide +kernel
theorem dX4_bucket_0 : decode cX4_bucket 0 = .ok (.aload_n 0, 1) := by decide +kernel
theorem dX4_bucket_1 : decode cX4_bucket 1 = .ok (.iconst 0, 1) := by decide +kernel
theorem dX4_bucket_2 : decode cX4_bucket 2 = .ok (.putfield 7, 3) := by decide +kernel
theorem dX4_bucket_5 : decode cX4_bucket 5 = .ok (.iload_n 1, 1) := by decide +kernel
theorem dX4_bucket_6 : decode cX4_bucket 6 = .ok (.iconst 0, 1) := by decide +kernel
theorem dX4_bucket_7 : decode cX4_bucket 7 = .ok (.bipush 15, 2) := by decide +kernel
theorem dX4_bucket_9 : decode cX4_bucket 9 = .ok (.invokestatic 121, 3) := by decide +kernel
theorem dX4_bucket_12 : decode cX4_bucket 12 = .ok (.ifCond .ne 5, 3) := by decide +kernel
theorem dX4_bucket_15 : decode cX4_bucket 15 = .ok (.iconst (-1), 1) := by decide +kernel
theorem dX4_bucket_16 : decode cX4_bucket 16 = .ok (.ireturn, 1) := by decide +kernel
theorem dX4_bucket_17 : decode cX4_bucket 17 = .ok (.aload_n 0, 1) := by decide +kernel
theorem dX4_bucket_18 : decode cX4_bucket 18 = .ok (.getfield 39, 3) := by decide +kernel
theorem dX4_bucket_21 : decode cX4_bucket 21 = .ok (.iload_n 1, 1) := by decide +kernel
theorem dX4_bucket_22 : decode cX4_bucket 22 = .ok (.iaload, 1) := by decide +kernel
theorem dX4_bucket_23 : decode cX4_bucket 23 = .ok (.ireturn, 1) := by decide +kernel
theorem dX4_total_0 : decode cX4_total 0 = .ok (.aload_n 0, 1) := by decide +kernel
theorem dX4_total_1 : decode cX4_total 1 = .ok (.iconst 0, 1) := by decide +kernel
theorem dX4_total_2 : decode cX4_total 2 = .ok (.putfield 7, 3) := by decide +kernel
theorem dX4_total_5 : decode cX4_total 5 = .ok (.iload_n 1, 1) := by decide +kernel
theorem dX4_total_6 : decode cX4_total 6 = .ok (.ifCond .ne 8, 3) := by decide +kernel
theorem dX4_total_9 : decode cX4_total 9 = .ok (.aload_n 0, 1) := by decide +kernel
theorem dX4_total_10 : decode cX4_total 10 = .ok (.getfield 42, 3) := by decide +kernel
theorem dX4_total_13 : decode cX4_total 13 = .ok (.ireturn, 1) := by decide +kernel
theorem dX4_total_14 : decode cX4_total 14 = .ok (.iload_n 1, 1) := by decide +kernel
theorem dX4_total_15 : decode cX4_total 15 = .ok (.iconst 1, 1) := by decide +kernel
theorem dX4_total_16 : decode cX4_total 16 = .ok (.if_icmp .ne 8, 3) := by decide +kernel
theorem dX4_total_19 : decode cX4_total 19 = .ok (.aload_n 0, 1) := by decide +kernel
theorem dX4_total_20 : decode cX4_total 20 = .ok (.getfield 45, 3) := by decide +kernel
theorem dX4_total_23 : decode cX4_total 23 = .ok (.ireturn, 1) := by decide +kernel
theorem dX4_total_24 : decode cX4_total 24 = .ok (.iload_n 1, 1) := by decide +kernel
theorem dX4_total_25 : decode cX4_total 25 = .ok (.iconst 2, 1) := by decide +kernel
theorem dX4_total_26 : decode cX4_total 26 = .ok (.if_icmp .ne 8, 3) := by decide +kernel
theorem dX4_total_29 : decode cX4_total 29 = .ok (.aload_n 0, 1) := by decide +kernel
theorem dX4_total_30 : decode cX4_total 30 = .ok (.getfield 48, 3) := by decide +kernel
theorem dX4_total_33 : decode cX4_total 33 = .ok (.ireturn, 1) := by decide +kernel
theorem dX4_total_34 : decode cX4_total 34 = .ok (.iload_n 1, 1) := by decide +kernel
theorem dX4_total_35 : decode cX4_total 35 = .ok (.iconst 3, 1) := by decide +kernel
theorem dX4_total_36 : decode cX4_total 36 = .ok (.if_icmp .eq 10, 3) := by decide +kernel
theorem dX4_total_39 : decode cX4_total 39 = .ok (.iload_n 1, 1) := by decide +kernel
theorem dX4_total_40 : decode cX4_total 40 = .ok (.iconst 4, 1) := by decide +kernel
theorem dX4_total_41 : decode cX4_total 41 = .ok (.if_icmp .eq 5, 3) := by decide +kernel
theorem dX4_total_44 : decode cX4_total 44 = .ok (.iconst (-1), 1) := by decide +kernel
theorem dX4_total_45 : decode cX4_total 45 = .ok (.ireturn, 1) := by decide +kernel
theorem dX4_total_46 : decode cX4_total 46 = .ok (.iconst 0, 1) := by decide +kernel
theorem dX4_total_47 : decode cX4_total 47 = .ok (.istore_n 2, 1) := by decide +kernel
theorem dX4_total_48 : decode cX4_total 48 = .ok (.iconst 0, 1) := by decide +kernel
theorem dX4_total_49 : decode cX4_total 49 = .ok (.istore_n 3, 1) := by decide +kernel
theorem dX4_total_50 : decode cX4_total 50 = .ok (.iload_n 3, 1) := by decide +kernel
theorem dX4_total_51 : decode cX4_total 51 = .ok (.bipush 64, 2) := by decide +kernel
theorem dX4_total_53 : decode cX4_total 53 = .ok (.if_icmp .ge 31, 3) := by decide +kernel
theorem dX4_total_56 : decode cX4_total 56 = .ok (.aload_n 0, 1) := by decide +kernel
theorem dX4_total_57 : decode cX4_total 57 = .ok (.getfield 13, 3) := by decide +kernel
theorem dX4_total_60 : decode cX4_total 60 = .ok (.iload_n 3, 1) := by decide +kernel
theorem dX4_total_61 : decode cX4_total 61 = .ok (.iaload, 1) := by decide +kernel
theorem dX4_total_62 : decode cX4_total 62 = .ok (.iload_n 1, 1) := by decide +kernel
theorem dX4_total_63 : decode cX4_total 63 = .ok (.iconst 3, 1) := by decide +kernel
theorem dX4_total_64 : decode cX4_total 64 = .ok (.if_icmp .ne 7, 3) := by decide +kernel
theorem dX4_total_67 : decode cX4_total 67 = .ok (.iconst 0, 1) := by decide +kernel
theorem dX4_total_68 : decode cX4_total 68 = .ok (.goto 4, 3) := by decide +kernel
theorem dX4_total_71 : decode cX4_total 71 = .ok (.iconst 2, 1) := by decide +kernel
theorem dX4_total_72 : decode cX4_total 72 = .ok (.if_icmp .ne 6, 3) := by decide +kernel
theorem dX4_total_75 : decode cX4_total 75 = .ok (.iinc 2 1, 3) := by decide +kernel
theorem dX4_total_78 : decode cX4_total 78 = .ok (.iinc 3 1, 3) := by decide +kernel
theorem dX4_total_81 : decode cX4_total 81 = .ok (.goto (-31), 3) := by decide +kernel
theorem dX4_total_84 : decode cX4_total 84 = .ok (.iload_n 2, 1) := by decide +kernel
theorem dX4_total_85 : decode cX4_total 85 = .ok (.ireturn, 1) := by decide +kernel
end
section
theorem dL_result_0 : decode cL_result 0 = .ok (.aload_n 2, 1) := by decide +kernel
theorem dL_result_1 : decode cL_result 1 = .ok (.iconst 0, 1) := by decide +kernel
theorem dL_result_2 : decode cL_result 2 = .ok (.aload_n 0, 1) := by decide +kernel
theorem dL_result_3 : decode cL_result 3 = .ok (.iload_n 1, 1) := by decide +kernel
theorem dL_result_4 : decode cL_result 4 = .ok (.invokevirtual 7, 3) := by decide +kernel
theorem dL_result_7 : decode cL_result 7 = .ok (.i2l, 1) := by decide +kernel
theorem dL_result_8 : decode cL_result 8 = .ok (.lastore, 1) := by decide +kernel
theorem dL_result_9 : decode cL_result 9 = .ok (.goto 6, 3) := by decide +kernel
theorem dL_result_12 : decode cL_result 12 = .ok (.astore_n 3, 1) := by decide +kernel
theorem dL_result_13 : decode cL_result 13 = .ok (.iconst 1, 1) := by decide +kernel
theorem dL_result_14 : decode cL_result 14 = .ok (.ireturn, 1) := by decide +kernel
theorem dL_result_15 : decode cL_result 15 = .ok (.iconst 0, 1) := by decide +kernel
theorem dL_result_16 : decode cL_result 16 = .ok (.ireturn, 1) := by decide +kernel
theorem dL_process_0 : decode cL_process 0 = .ok (.aload_n 3, 1) := by decide +kernel
theorem dL_process_1 : decode cL_process 1 = .ok (.iconst 0, 1) := by decide +kernel
theorem dL_process_2 : decode cL_process 2 = .ok (.aload_n 0, 1) := by decide +kernel
theorem dL_process_3 : decode cL_process 3 = .ok (.iload_n 1, 1) := by decide +kernel
theorem dL_process_4 : decode cL_process 4 = .ok (.iload_n 2, 1) := by decide +kernel
theorem dL_process_5 : decode cL_process 5 = .ok (.invokevirtual 15, 3) := by decide +kernel
theorem dL_process_8 : decode cL_process 8 = .ok (.i2l, 1) := by decide +kernel
theorem dL_process_9 : decode cL_process 9 = .ok (.lastore, 1) := by decide +kernel
theorem dL_process_10 : decode cL_process 10 = .ok (.goto 7, 3) := by decide +kernel
theorem dL_process_13 : decode cL_process 13 = .ok (.astore 4, 2) := by decide +kernel
theorem dL_process_15 : decode cL_process 15 = .ok (.iconst 1, 1) := by decide +kernel
theorem dL_process_16 : decode cL_process 16 = .ok (.ireturn, 1) := by decide +kernel
theorem dL_process_17 : decode cL_process 17 = .ok (.iconst 0, 1) := by decide +kernel
theorem dL_process_18 : decode cL_process 18 = .ok (.ireturn, 1) := by decide +kernel
theorem dL_node_0 : decode cL_node 0 = .ok (.aload_n 3, 1) := by decide +kernel
theorem dL_node_1 : decode cL_node 1 = .ok (.iconst 0, 1) := by decide +kernel
theorem dL_node_2 : decode cL_node 2 = .ok (.aload_n 0, 1) := by decide +kernel
theorem dL_node_3 : decode cL_node 3 = .ok (.iload_n 1, 1) := by decide +kernel
theorem dL_node_4 : decode cL_node 4 = .ok (.iload_n 2, 1) := by decide +kernel
theorem dL_node_5 : decode cL_node 5 = .ok (.invokevirtual 19, 3) := by decide +kernel
theorem dL_node_8 : decode cL_node 8 = .ok (.i2l, 1) := by decide +kernel
theorem dL_node_9 : decode cL_node 9 = .ok (.lastore, 1) := by decide +kernel
theorem dL_node_10 : decode cL_node 10 = .ok (.goto 7, 3) := by decide +kernel
theorem dL_node_13 : decode cL_node 13 = .ok (.astore 4, 2) := by decide +kernel
theorem dL_node_15 : decode cL_node 15 = .ok (.iconst 1, 1) := by decide +kernel
theorem dL_node_16 : decode cL_node 16 = .ok (.ireturn, 1) := by decide +kernel
theorem dL_node_17 : decode cL_node 17 = .ok (.iconst 0, 1) := by decide +kernel
theorem dL_node_18 : decode cL_node 18 = .ok (.ireturn, 1) := by decide +kernel
theorem dL_law_0 : decode cL_law 0 = .ok (.new 8, 3) := by decide +kernel
theorem dL_law_3 : decode cL_law 3 = .ok (.dup, 1) := by decide +kernel
theorem dL_law_4 : decode cL_law 4 = .ok (.invokespecial 22, 3) := by decide +kernel
theorem dL_law_7 : decode cL_law 7 = .ok (.astore_n 1, 1) := by decide +kernel
theorem dL_law_8 : decode cL_law 8 = .ok (.new 23, 3) := by decide +kernel
theorem dL_law_11 : decode cL_law 11 = .ok (.dup, 1) := by decide +kernel
theorem dL_law_12 : decode cL_law 12 = .ok (.invokespecial 25, 3) := by decide +kernel
theorem dL_law_15 : decode cL_law 15 = .ok (.astore_n 2, 1) := by decide +kernel
theorem dL_law_16 : decode cL_law 16 = .ok (.iconst 1, 1) := by decide +kernel
theorem dL_law_17 : decode cL_law 17 = .ok (.newarray .long, 2) := by decide +kernel
theorem dL_law_19 : decode cL_law 19 = .ok (.astore_n 3, 1) := by decide +kernel
theorem dL_law_20 : decode cL_law 20 = .ok (.iconst 0, 1) := by decide +kernel
theorem dL_law_21 : decode cL_law 21 = .ok (.istore 4, 2) := by decide +kernel
theorem dL_law_23 : decode cL_law 23 = .ok (.iload 4, 2) := by decide +kernel
theorem dL_law_25 : decode cL_law 25 = .ok (.aload_n 0, 1) := by decide +kernel
theorem dL_law_26 : decode cL_law 26 = .ok (.arraylength, 1) := by decide +kernel
theorem dL_law_27 : decode cL_law 27 = .ok (.iconst 5, 1) := by decide +kernel
theorem dL_law_28 : decode cL_law 28 = .ok (.isub, 1) := by decide +kernel
theorem dL_law_29 : decode cL_law 29 = .ok (.if_icmp .gt 426, 3) := by decide +kernel
theorem dL_law_32 : decode cL_law 32 = .ok (.aload_n 0, 1) := by decide +kernel
theorem dL_law_33 : decode cL_law 33 = .ok (.iload 4, 2) := by decide +kernel
theorem dL_law_35 : decode cL_law 35 = .ok (.iaload, 1) := by decide +kernel
theorem dL_law_36 : decode cL_law 36 = .ok (.bipush 7, 2) := by decide +kernel
theorem dL_law_38 : decode cL_law 38 = .ok (.iand, 1) := by decide +kernel
theorem dL_law_39 : decode cL_law 39 = .ok (.tableswitch 410 0 7 #[45, 106, 131, 168, 224, 292, 360, 385], 45) := by decide +kernel
theorem dL_law_84 : decode cL_law 84 = .ok (.aload_n 1, 1) := by decide +kernel
theorem dL_law_85 : decode cL_law 85 = .ok (.aload_n 0, 1) := by decide +kernel
theorem dL_law_86 : decode cL_law 86 = .ok (.iload 4, 2) := by decide +kernel
theorem dL_law_88 : decode cL_law 88 = .ok (.iconst 1, 1) := by decide +kernel
theorem dL_law_89 : decode cL_law 89 = .ok (.iadd, 1) := by decide +kernel
theorem dL_law_90 : decode cL_law 90 = .ok (.iaload, 1) := by decide +kernel
theorem dL_law_91 : decode cL_law 91 = .ok (.aload_n 0, 1) := by decide +kernel
theorem dL_law_92 : decode cL_law 92 = .ok (.iload 4, 2) := by decide +kernel
theorem dL_law_94 : decode cL_law 94 = .ok (.iconst 2, 1) := by decide +kernel
theorem dL_law_95 : decode cL_law 95 = .ok (.iadd, 1) := by decide +kernel
theorem dL_law_96 : decode cL_law 96 = .ok (.iaload, 1) := by decide +kernel
theorem dL_law_97 : decode cL_law 97 = .ok (.aload_n 0, 1) := by decide +kernel
theorem dL_law_98 : decode cL_law 98 = .ok (.iload 4, 2) := by decide +kernel
theorem dL_law_100 : decode cL_law 100 = .ok (.iconst 3, 1) := by decide +kernel
theorem dL_law_101 : decode cL_law 101 = .ok (.iadd, 1) := by decide +kernel
theorem dL_law_102 : decode cL_law 102 = .ok (.iaload, 1) := by decide +kernel
theorem dL_law_103 : decode cL_law 103 = .ok (.aload_n 0, 1) := by decide +kernel
theorem dL_law_104 : decode cL_law 104 = .ok (.iload 4, 2) := by decide +kernel
theorem dL_law_106 : decode cL_law 106 = .ok (.iconst 4, 1) := by decide +kernel
theorem dL_law_107 : decode cL_law 107 = .ok (.iadd, 1) := by decide +kernel
theorem dL_law_108 : decode cL_law 108 = .ok (.iaload, 1) := by decide +kernel
theorem dL_law_109 : decode cL_law 109 = .ok (.invokevirtual 26, 3) := by decide +kernel
theorem dL_law_112 : decode cL_law 112 = .ok (.aload_n 2, 1) := by decide +kernel
theorem dL_law_113 : decode cL_law 113 = .ok (.aload_n 0, 1) := by decide +kernel
theorem dL_law_114 : decode cL_law 114 = .ok (.iload 4, 2) := by decide +kernel
theorem dL_law_116 : decode cL_law 116 = .ok (.iconst 1, 1) := by decide +kernel
theorem dL_law_117 : decode cL_law 117 = .ok (.iadd, 1) := by decide +kernel
theorem dL_law_118 : decode cL_law 118 = .ok (.iaload, 1) := by decide +kernel
theorem dL_law_119 : decode cL_law 119 = .ok (.aload_n 0, 1) := by decide +kernel
theorem dL_law_120 : decode cL_law 120 = .ok (.iload 4, 2) := by decide +kernel
theorem dL_law_122 : decode cL_law 122 = .ok (.iconst 2, 1) := by decide +kernel
theorem dL_law_123 : decode cL_law 123 = .ok (.iadd, 1) := by decide +kernel
theorem dL_law_124 : decode cL_law 124 = .ok (.iaload, 1) := by decide +kernel
theorem dL_law_125 : decode cL_law 125 = .ok (.aload_n 0, 1) := by decide +kernel
theorem dL_law_126 : decode cL_law 126 = .ok (.iload 4, 2) := by decide +kernel
theorem dL_law_128 : decode cL_law 128 = .ok (.iconst 3, 1) := by decide +kernel
theorem dL_law_129 : decode cL_law 129 = .ok (.iadd, 1) := by decide +kernel
theorem dL_law_130 : decode cL_law 130 = .ok (.iaload, 1) := by decide +kernel
theorem dL_law_131 : decode cL_law 131 = .ok (.aload_n 0, 1) := by decide +kernel
theorem dL_law_132 : decode cL_law 132 = .ok (.iload 4, 2) := by decide +kernel
theorem dL_law_134 : decode cL_law 134 = .ok (.iconst 4, 1) := by decide +kernel
theorem dL_law_135 : decode cL_law 135 = .ok (.iadd, 1) := by decide +kernel
theorem dL_law_136 : decode cL_law 136 = .ok (.iaload, 1) := by decide +kernel
theorem dL_law_137 : decode cL_law 137 = .ok (.invokevirtual 30, 3) := by decide +kernel
theorem dL_law_140 : decode cL_law 140 = .ok (.if_icmp .eq 309, 3) := by decide +kernel
theorem dL_law_143 : decode cL_law 143 = .ok (.iconst 0, 1) := by decide +kernel
theorem dL_law_144 : decode cL_law 144 = .ok (.ireturn, 1) := by decide +kernel
theorem dL_law_145 : decode cL_law 145 = .ok (.aload_n 1, 1) := by decide +kernel
theorem dL_law_146 : decode cL_law 146 = .ok (.aload_n 0, 1) := by decide +kernel
theorem dL_law_147 : decode cL_law 147 = .ok (.iload 4, 2) := by decide +kernel
theorem dL_law_149 : decode cL_law 149 = .ok (.iconst 1, 1) := by decide +kernel
theorem dL_law_150 : decode cL_law 150 = .ok (.iadd, 1) := by decide +kernel
theorem dL_law_151 : decode cL_law 151 = .ok (.iaload, 1) := by decide +kernel
theorem dL_law_152 : decode cL_law 152 = .ok (.invokevirtual 31, 3) := by decide +kernel
theorem dL_law_155 : decode cL_law 155 = .ok (.aload_n 2, 1) := by decide +kernel
theorem dL_law_156 : decode cL_law 156 = .ok (.aload_n 0, 1) := by decide +kernel
theorem dL_law_157 : decode cL_law 157 = .ok (.iload 4, 2) := by decide +kernel
theorem dL_law_159 : decode cL_law 159 = .ok (.iconst 1, 1) := by decide +kernel
theorem dL_law_160 : decode cL_law 160 = .ok (.iadd, 1) := by decide +kernel
theorem dL_law_161 : decode cL_law 161 = .ok (.iaload, 1) := by decide +kernel
theorem dL_law_162 : decode cL_law 162 = .ok (.invokevirtual 34, 3) := by decide +kernel
theorem dL_law_165 : decode cL_law 165 = .ok (.if_icmp .eq 284, 3) := by decide +kernel
theorem dL_law_168 : decode cL_law 168 = .ok (.iconst 0, 1) := by decide +kernel
theorem dL_law_169 : decode cL_law 169 = .ok (.ireturn, 1) := by decide +kernel
theorem dL_law_170 : decode cL_law 170 = .ok (.aload_n 1, 1) := by decide +kernel
theorem dL_law_171 : decode cL_law 171 = .ok (.aload_n 0, 1) := by decide +kernel
theorem dL_law_172 : decode cL_law 172 = .ok (.iload 4, 2) := by decide +kernel
theorem dL_law_174 : decode cL_law 174 = .ok (.iconst 1, 1) := by decide +kernel
theorem dL_law_175 : decode cL_law 175 = .ok (.iadd, 1) := by decide +kernel
theorem dL_law_176 : decode cL_law 176 = .ok (.iaload, 1) := by decide +kernel
theorem dL_law_177 : decode cL_law 177 = .ok (.aload_n 0, 1) := by decide +kernel
theorem dL_law_178 : decode cL_law 178 = .ok (.iload 4, 2) := by decide +kernel
theorem dL_law_180 : decode cL_law 180 = .ok (.iconst 2, 1) := by decide +kernel
theorem dL_law_181 : decode cL_law 181 = .ok (.iadd, 1) := by decide +kernel
theorem dL_law_182 : decode cL_law 182 = .ok (.iaload, 1) := by decide +kernel
theorem dL_law_183 : decode cL_law 183 = .ok (.invokevirtual 35, 3) := by decide +kernel
theorem dL_law_186 : decode cL_law 186 = .ok (.aload_n 2, 1) := by decide +kernel
theorem dL_law_187 : decode cL_law 187 = .ok (.aload_n 0, 1) := by decide +kernel
theorem dL_law_188 : decode cL_law 188 = .ok (.iload 4, 2) := by decide +kernel
theorem dL_law_190 : decode cL_law 190 = .ok (.iconst 1, 1) := by decide +kernel
theorem dL_law_191 : decode cL_law 191 = .ok (.iadd, 1) := by decide +kernel
theorem dL_law_192 : decode cL_law 192 = .ok (.iaload, 1) := by decide +kernel
theorem dL_law_193 : decode cL_law 193 = .ok (.aload_n 0, 1) := by decide +kernel
theorem dL_law_194 : decode cL_law 194 = .ok (.iload 4, 2) := by decide +kernel
theorem dL_law_196 : decode cL_law 196 = .ok (.iconst 2, 1) := by decide +kernel
theorem dL_law_197 : decode cL_law 197 = .ok (.iadd, 1) := by decide +kernel
theorem dL_law_198 : decode cL_law 198 = .ok (.iaload, 1) := by decide +kernel
theorem dL_law_199 : decode cL_law 199 = .ok (.invokevirtual 38, 3) := by decide +kernel
theorem dL_law_202 : decode cL_law 202 = .ok (.if_icmp .eq 247, 3) := by decide +kernel
theorem dL_law_205 : decode cL_law 205 = .ok (.iconst 0, 1) := by decide +kernel
theorem dL_law_206 : decode cL_law 206 = .ok (.ireturn, 1) := by decide +kernel
theorem dL_law_207 : decode cL_law 207 = .ok (.aload_n 1, 1) := by decide +kernel
theorem dL_law_208 : decode cL_law 208 = .ok (.aload_n 0, 1) := by decide +kernel
theorem dL_law_209 : decode cL_law 209 = .ok (.iload 4, 2) := by decide +kernel
theorem dL_law_211 : decode cL_law 211 = .ok (.iconst 1, 1) := by decide +kernel
theorem dL_law_212 : decode cL_law 212 = .ok (.iadd, 1) := by decide +kernel
theorem dL_law_213 : decode cL_law 213 = .ok (.iaload, 1) := by decide +kernel
theorem dL_law_214 : decode cL_law 214 = .ok (.aload_n 3, 1) := by decide +kernel
theorem dL_law_215 : decode cL_law 215 = .ok (.invokestatic 39, 3) := by decide +kernel
theorem dL_law_218 : decode cL_law 218 = .ok (.istore 5, 2) := by decide +kernel
theorem dL_law_220 : decode cL_law 220 = .ok (.aload_n 2, 1) := by decide +kernel
theorem dL_law_221 : decode cL_law 221 = .ok (.aload_n 0, 1) := by decide +kernel
theorem dL_law_222 : decode cL_law 222 = .ok (.iload 4, 2) := by decide +kernel
theorem dL_law_224 : decode cL_law 224 = .ok (.iconst 1, 1) := by decide +kernel
theorem dL_law_225 : decode cL_law 225 = .ok (.iadd, 1) := by decide +kernel
theorem dL_law_226 : decode cL_law 226 = .ok (.iaload, 1) := by decide +kernel
theorem dL_law_227 : decode cL_law 227 = .ok (.invokevirtual 44, 3) := by decide +kernel
theorem dL_law_230 : decode cL_law 230 = .ok (.istore 6, 2) := by decide +kernel
theorem dL_law_232 : decode cL_law 232 = .ok (.aload_n 2, 1) := by decide +kernel
theorem dL_law_233 : decode cL_law 233 = .ok (.invokevirtual 45, 3) := by decide +kernel
theorem dL_law_236 : decode cL_law 236 = .ok (.iload 5, 2) := by decide +kernel
theorem dL_law_238 : decode cL_law 238 = .ok (.if_icmp .eq 5, 3) := by decide +kernel
theorem dL_law_241 : decode cL_law 241 = .ok (.iconst 0, 1) := by decide +kernel
theorem dL_law_242 : decode cL_law 242 = .ok (.ireturn, 1) := by decide +kernel
theorem dL_law_243 : decode cL_law 243 = .ok (.iload 5, 2) := by decide +kernel
theorem dL_law_245 : decode cL_law 245 = .ok (.ifCond .ne 15, 3) := by decide +kernel
theorem dL_law_248 : decode cL_law 248 = .ok (.aload_n 3, 1) := by decide +kernel
theorem dL_law_249 : decode cL_law 249 = .ok (.iconst 0, 1) := by decide +kernel
theorem dL_law_250 : decode cL_law 250 = .ok (.laload, 1) := by decide +kernel
theorem dL_law_251 : decode cL_law 251 = .ok (.iload 6, 2) := by decide +kernel
theorem dL_law_253 : decode cL_law 253 = .ok (.i2l, 1) := by decide +kernel
theorem dL_law_254 : decode cL_law 254 = .ok (.lcmp, 1) := by decide +kernel
theorem dL_law_255 : decode cL_law 255 = .ok (.ifCond .eq 5, 3) := by decide +kernel
theorem dL_law_258 : decode cL_law 258 = .ok (.iconst 0, 1) := by decide +kernel
theorem dL_law_259 : decode cL_law 259 = .ok (.ireturn, 1) := by decide +kernel
theorem dL_law_260 : decode cL_law 260 = .ok (.goto 189, 3) := by decide +kernel
theorem dL_law_263 : decode cL_law 263 = .ok (.aload_n 1, 1) := by decide +kernel
theorem dL_law_264 : decode cL_law 264 = .ok (.aload_n 0, 1) := by decide +kernel
theorem dL_law_265 : decode cL_law 265 = .ok (.iload 4, 2) := by decide +kernel
theorem dL_law_267 : decode cL_law 267 = .ok (.iconst 1, 1) := by decide +kernel
theorem dL_law_268 : decode cL_law 268 = .ok (.iadd, 1) := by decide +kernel
theorem dL_law_269 : decode cL_law 269 = .ok (.iaload, 1) := by decide +kernel
theorem dL_law_270 : decode cL_law 270 = .ok (.aload_n 0, 1) := by decide +kernel
theorem dL_law_271 : decode cL_law 271 = .ok (.iload 4, 2) := by decide +kernel
theorem dL_law_273 : decode cL_law 273 = .ok (.iconst 2, 1) := by decide +kernel
theorem dL_law_274 : decode cL_law 274 = .ok (.iadd, 1) := by decide +kernel
theorem dL_law_275 : decode cL_law 275 = .ok (.iaload, 1) := by decide +kernel
theorem dL_law_276 : decode cL_law 276 = .ok (.aload_n 3, 1) := by decide +kernel
theorem dL_law_277 : decode cL_law 277 = .ok (.invokestatic 49, 3) := by decide +kernel
theorem dL_law_280 : decode cL_law 280 = .ok (.istore 5, 2) := by decide +kernel
theorem dL_law_282 : decode cL_law 282 = .ok (.aload_n 2, 1) := by decide +kernel
theorem dL_law_283 : decode cL_law 283 = .ok (.aload_n 0, 1) := by decide +kernel
theorem dL_law_284 : decode cL_law 284 = .ok (.iload 4, 2) := by decide +kernel
theorem dL_law_286 : decode cL_law 286 = .ok (.iconst 1, 1) := by decide +kernel
theorem dL_law_287 : decode cL_law 287 = .ok (.iadd, 1) := by decide +kernel
theorem dL_law_288 : decode cL_law 288 = .ok (.iaload, 1) := by decide +kernel
theorem dL_law_289 : decode cL_law 289 = .ok (.aload_n 0, 1) := by decide +kernel
theorem dL_law_290 : decode cL_law 290 = .ok (.iload 4, 2) := by decide +kernel
theorem dL_law_292 : decode cL_law 292 = .ok (.iconst 2, 1) := by decide +kernel
theorem dL_law_293 : decode cL_law 293 = .ok (.iadd, 1) := by decide +kernel
theorem dL_law_294 : decode cL_law 294 = .ok (.iaload, 1) := by decide +kernel
theorem dL_law_295 : decode cL_law 295 = .ok (.invokevirtual 52, 3) := by decide +kernel
theorem dL_law_298 : decode cL_law 298 = .ok (.istore 6, 2) := by decide +kernel
theorem dL_law_300 : decode cL_law 300 = .ok (.aload_n 2, 1) := by decide +kernel
theorem dL_law_301 : decode cL_law 301 = .ok (.invokevirtual 45, 3) := by decide +kernel
theorem dL_law_304 : decode cL_law 304 = .ok (.iload 5, 2) := by decide +kernel
theorem dL_law_306 : decode cL_law 306 = .ok (.if_icmp .eq 5, 3) := by decide +kernel
theorem dL_law_309 : decode cL_law 309 = .ok (.iconst 0, 1) := by decide +kernel
theorem dL_law_310 : decode cL_law 310 = .ok (.ireturn, 1) := by decide +kernel
theorem dL_law_311 : decode cL_law 311 = .ok (.iload 5, 2) := by decide +kernel
theorem dL_law_313 : decode cL_law 313 = .ok (.ifCond .ne 15, 3) := by decide +kernel
theorem dL_law_316 : decode cL_law 316 = .ok (.aload_n 3, 1) := by decide +kernel
theorem dL_law_317 : decode cL_law 317 = .ok (.iconst 0, 1) := by decide +kernel
theorem dL_law_318 : decode cL_law 318 = .ok (.laload, 1) := by decide +kernel
theorem dL_law_319 : decode cL_law 319 = .ok (.iload 6, 2) := by decide +kernel
theorem dL_law_321 : decode cL_law 321 = .ok (.i2l, 1) := by decide +kernel
theorem dL_law_322 : decode cL_law 322 = .ok (.lcmp, 1) := by decide +kernel
theorem dL_law_323 : decode cL_law 323 = .ok (.ifCond .eq 5, 3) := by decide +kernel
theorem dL_law_326 : decode cL_law 326 = .ok (.iconst 0, 1) := by decide +kernel
theorem dL_law_327 : decode cL_law 327 = .ok (.ireturn, 1) := by decide +kernel
theorem dL_law_328 : decode cL_law 328 = .ok (.goto 121, 3) := by decide +kernel
theorem dL_law_331 : decode cL_law 331 = .ok (.aload_n 1, 1) := by decide +kernel
theorem dL_law_332 : decode cL_law 332 = .ok (.aload_n 0, 1) := by decide +kernel
theorem dL_law_333 : decode cL_law 333 = .ok (.iload 4, 2) := by decide +kernel
theorem dL_law_335 : decode cL_law 335 = .ok (.iconst 1, 1) := by decide +kernel
theorem dL_law_336 : decode cL_law 336 = .ok (.iadd, 1) := by decide +kernel
theorem dL_law_337 : decode cL_law 337 = .ok (.iaload, 1) := by decide +kernel
theorem dL_law_338 : decode cL_law 338 = .ok (.aload_n 0, 1) := by decide +kernel
theorem dL_law_339 : decode cL_law 339 = .ok (.iload 4, 2) := by decide +kernel
theorem dL_law_341 : decode cL_law 341 = .ok (.iconst 2, 1) := by decide +kernel
theorem dL_law_342 : decode cL_law 342 = .ok (.iadd, 1) := by decide +kernel
theorem dL_law_343 : decode cL_law 343 = .ok (.iaload, 1) := by decide +kernel
theorem dL_law_344 : decode cL_law 344 = .ok (.aload_n 3, 1) := by decide +kernel
theorem dL_law_345 : decode cL_law 345 = .ok (.invokestatic 53, 3) := by decide +kernel
theorem dL_law_348 : decode cL_law 348 = .ok (.istore 5, 2) := by decide +kernel
theorem dL_law_350 : decode cL_law 350 = .ok (.aload_n 2, 1) := by decide +kernel
theorem dL_law_351 : decode cL_law 351 = .ok (.aload_n 0, 1) := by decide +kernel
theorem dL_law_352 : decode cL_law 352 = .ok (.iload 4, 2) := by decide +kernel
theorem dL_law_354 : decode cL_law 354 = .ok (.iconst 1, 1) := by decide +kernel
theorem dL_law_355 : decode cL_law 355 = .ok (.iadd, 1) := by decide +kernel
theorem dL_law_356 : decode cL_law 356 = .ok (.iaload, 1) := by decide +kernel
theorem dL_law_357 : decode cL_law 357 = .ok (.aload_n 0, 1) := by decide +kernel
theorem dL_law_358 : decode cL_law 358 = .ok (.iload 4, 2) := by decide +kernel
theorem dL_law_360 : decode cL_law 360 = .ok (.iconst 2, 1) := by decide +kernel
theorem dL_law_361 : decode cL_law 361 = .ok (.iadd, 1) := by decide +kernel
theorem dL_law_362 : decode cL_law 362 = .ok (.iaload, 1) := by decide +kernel
theorem dL_law_363 : decode cL_law 363 = .ok (.invokevirtual 55, 3) := by decide +kernel
theorem dL_law_366 : decode cL_law 366 = .ok (.istore 6, 2) := by decide +kernel
theorem dL_law_368 : decode cL_law 368 = .ok (.aload_n 2, 1) := by decide +kernel
theorem dL_law_369 : decode cL_law 369 = .ok (.invokevirtual 45, 3) := by decide +kernel
theorem dL_law_372 : decode cL_law 372 = .ok (.iload 5, 2) := by decide +kernel
theorem dL_law_374 : decode cL_law 374 = .ok (.if_icmp .eq 5, 3) := by decide +kernel
theorem dL_law_377 : decode cL_law 377 = .ok (.iconst 0, 1) := by decide +kernel
theorem dL_law_378 : decode cL_law 378 = .ok (.ireturn, 1) := by decide +kernel
theorem dL_law_379 : decode cL_law 379 = .ok (.iload 5, 2) := by decide +kernel
theorem dL_law_381 : decode cL_law 381 = .ok (.ifCond .ne 15, 3) := by decide +kernel
theorem dL_law_384 : decode cL_law 384 = .ok (.aload_n 3, 1) := by decide +kernel
theorem dL_law_385 : decode cL_law 385 = .ok (.iconst 0, 1) := by decide +kernel
theorem dL_law_386 : decode cL_law 386 = .ok (.laload, 1) := by decide +kernel
theorem dL_law_387 : decode cL_law 387 = .ok (.iload 6, 2) := by decide +kernel
theorem dL_law_389 : decode cL_law 389 = .ok (.i2l, 1) := by decide +kernel
theorem dL_law_390 : decode cL_law 390 = .ok (.lcmp, 1) := by decide +kernel
theorem dL_law_391 : decode cL_law 391 = .ok (.ifCond .eq 5, 3) := by decide +kernel
theorem dL_law_394 : decode cL_law 394 = .ok (.iconst 0, 1) := by decide +kernel
theorem dL_law_395 : decode cL_law 395 = .ok (.ireturn, 1) := by decide +kernel
theorem dL_law_396 : decode cL_law 396 = .ok (.goto 53, 3) := by decide +kernel
theorem dL_law_399 : decode cL_law 399 = .ok (.aload_n 1, 1) := by decide +kernel
theorem dL_law_400 : decode cL_law 400 = .ok (.aload_n 0, 1) := by decide +kernel
theorem dL_law_401 : decode cL_law 401 = .ok (.iload 4, 2) := by decide +kernel
theorem dL_law_403 : decode cL_law 403 = .ok (.iconst 1, 1) := by decide +kernel
theorem dL_law_404 : decode cL_law 404 = .ok (.iadd, 1) := by decide +kernel
theorem dL_law_405 : decode cL_law 405 = .ok (.iaload, 1) := by decide +kernel
theorem dL_law_406 : decode cL_law 406 = .ok (.invokevirtual 56, 3) := by decide +kernel
theorem dL_law_409 : decode cL_law 409 = .ok (.aload_n 2, 1) := by decide +kernel
theorem dL_law_410 : decode cL_law 410 = .ok (.aload_n 0, 1) := by decide +kernel
theorem dL_law_411 : decode cL_law 411 = .ok (.iload 4, 2) := by decide +kernel
theorem dL_law_413 : decode cL_law 413 = .ok (.iconst 1, 1) := by decide +kernel
theorem dL_law_414 : decode cL_law 414 = .ok (.iadd, 1) := by decide +kernel
theorem dL_law_415 : decode cL_law 415 = .ok (.iaload, 1) := by decide +kernel
theorem dL_law_416 : decode cL_law 416 = .ok (.invokevirtual 59, 3) := by decide +kernel
theorem dL_law_419 : decode cL_law 419 = .ok (.if_icmp .eq 30, 3) := by decide +kernel
theorem dL_law_422 : decode cL_law 422 = .ok (.iconst 0, 1) := by decide +kernel
theorem dL_law_423 : decode cL_law 423 = .ok (.ireturn, 1) := by decide +kernel
theorem dL_law_424 : decode cL_law 424 = .ok (.aload_n 1, 1) := by decide +kernel
theorem dL_law_425 : decode cL_law 425 = .ok (.aload_n 0, 1) := by decide +kernel
theorem dL_law_426 : decode cL_law 426 = .ok (.iload 4, 2) := by decide +kernel
theorem dL_law_428 : decode cL_law 428 = .ok (.iconst 1, 1) := by decide +kernel
theorem dL_law_429 : decode cL_law 429 = .ok (.iadd, 1) := by decide +kernel
theorem dL_law_430 : decode cL_law 430 = .ok (.iaload, 1) := by decide +kernel
theorem dL_law_431 : decode cL_law 431 = .ok (.invokevirtual 60, 3) := by decide +kernel
theorem dL_law_434 : decode cL_law 434 = .ok (.aload_n 2, 1) := by decide +kernel
theorem dL_law_435 : decode cL_law 435 = .ok (.aload_n 0, 1) := by decide +kernel
theorem dL_law_436 : decode cL_law 436 = .ok (.iload 4, 2) := by decide +kernel
theorem dL_law_438 : decode cL_law 438 = .ok (.iconst 1, 1) := by decide +kernel
theorem dL_law_439 : decode cL_law 439 = .ok (.iadd, 1) := by decide +kernel
theorem dL_law_440 : decode cL_law 440 = .ok (.iaload, 1) := by decide +kernel
theorem dL_law_441 : decode cL_law 441 = .ok (.invokevirtual 63, 3) := by decide +kernel
theorem dL_law_444 : decode cL_law 444 = .ok (.if_icmp .eq 5, 3) := by decide +kernel
theorem dL_law_447 : decode cL_law 447 = .ok (.iconst 0, 1) := by decide +kernel
theorem dL_law_448 : decode cL_law 448 = .ok (.ireturn, 1) := by decide +kernel
theorem dL_law_449 : decode cL_law 449 = .ok (.iinc 4 5, 3) := by decide +kernel
theorem dL_law_452 : decode cL_law 452 = .ok (.goto (-429), 3) := by decide +kernel
theorem dL_law_455 : decode cL_law 455 = .ok (.iconst 1, 1) := by decide +kernel
theorem dL_law_456 : decode cL_law 456 = .ok (.ireturn, 1) := by decide +kernel
end
section
/-! THE JUDGEMENT zs_Z: the kit's W with the heap told by a pure state; a row an instruction. -/
abbrev zs_T : Type := Nat → Nat → Int32
def zs_u (σ : zs_T) (c k : Nat) (v : Int32) : zs_T := fun a b => if a = c ∧ b = k then v else σ a b
def zs_wl (N : Nat) (ad : Nat → Nat) (cf : Nat → va_E) : va_W := (List.range N).map (fun i => (ad i, cf i))
theorem zs_wl_len {N : Nat} {ad : Nat → Nat} {cf : Nat → va_E} : (zs_wl N ad cf).length = N := by simp [zs_wl]
theorem zs_wl_get {N : Nat} {ad : Nat → Nat} {cf : Nat → va_E} {i : Nat} (h : i < N) : (zs_wl N ad cf)[i]? = some (ad i, cf i) := by simp [zs_wl, h]
theorem zs_wl_of {N : Nat} {ad : Nat → Nat} {cf : Nat → va_E} {k : Nat} {q : Nat × va_E} (h : (zs_wl N ad cf)[k]? = some q) : k < N ∧ q = (ad k, cf k) := by
  have hk : k < N := by
    have h2 := (List.getElem?_eq_some_iff.mp h).1
    rwa [zs_wl_len] at h2
  rw [zs_wl_get hk] at h
  exact ⟨hk, (Option.some.inj h).symm⟩
/-- the state σ' is σ with the cell q holding e -/
def zs_S (N : Nat) (wf : zs_T → Nat → va_E) (σ : zs_T) (q : Nat) (e : va_E) (σ' : zs_T) : Prop := q < N ∧ wf σ' q = e ∧ ∀ i, i < N → i ≠ q → wf σ' i = wf σ i
theorem zs_wl_set {N : Nat} {ad : Nat → Nat} {wf : zs_T → Nat → va_E} {σ σ' : zs_T} {q : Nat} {e : va_E} (h : zs_S N wf σ q e σ') : (zs_wl N ad (wf σ)).set q (ad q, e) = zs_wl N ad (wf σ') := by
  obtain ⟨hq, he, ho⟩ := h
  apply List.ext_getElem?
  intro i
  by_cases hi : i < N
  · by_cases hiq : i = q
    · subst hiq
      rw [zs_wl_get hi, List.getElem?_set_self (by rw [zs_wl_len]; exact hi), he]
    · rw [zs_wl_get hi, List.getElem?_set_ne (Ne.symm hiq), zs_wl_get hi, ho i hi hiq]
  · rw [List.getElem?_eq_none (by rw [List.length_set, zs_wl_len]; omega), List.getElem?_eq_none (by rw [zs_wl_len]; omega)]
def zs_A (N : Nat) (ad : Nat → Nat) (sz : Nat) : Nat → Prop := fun q => (∃ k, k < N ∧ q = ad k) ∨ sz ≤ q
theorem zs_A.mono {N : Nat} {ad : Nat → Nat} {a b q : Nat} (h : a ≤ b) (hq : zs_A N ad b q) : zs_A N ad a q := by
  rcases hq with h1 | h1
  · exact Or.inl h1
  · exact Or.inr (Nat.le_trans h h1)
def zs_J (N : Nat) (ad : Nat → Nat) : Prop := ∀ i j, i < N → j < N → ad i = ad j → i = j
theorem zs_D {N : Nat} {ad : Nat → Nat} {sz : Nat} {cf : Nat → va_E} (h : zs_J N ad) : va_D (zs_A N ad sz) (zs_wl N ad cf) := by
  refine ⟨fun i j p q hi hj hpq => ?_, fun k q hk => ?_⟩
  · obtain ⟨h1, rfl⟩ := zs_wl_of hi
    obtain ⟨h2, rfl⟩ := zs_wl_of hj
    exact h i j h1 h2 hpq
  · obtain ⟨h1, rfl⟩ := zs_wl_of hk
    exact Or.inl ⟨k, h1, rfl⟩
/-- what a method comes to: the state behind it, and its answer (0 where it has none) -/
abbrev zs_O : Type := zs_T × Int32
def zs_vi (r : Int32) : Option Value := some (.int r)
def zs_vv (_ : Int32) : Option Value := none
def zs_Q (D : va_G) (cl : List vw_C) (N : Nat) (ad : Nat → Nat) (wf : zs_T → Nat → va_E) (sz : Nat) (ov : Int32 → Option Value) (out : zs_O) : Array Value → State → Outcome → State → Prop := fun _ st oc t => (oc = .returned (ov out.2) ∧ va_P D cl (zs_wl N ad (wf out.1)) t.heap) ∧ va_F (zs_A N ad sz) st t
def zs_Z (p : Program) (l : Launch) (e : Env) (R : Room) (s : State) (m : MethodId) (args : Array Value) (below : List Frame) (meth : Method) (c : Code) (D : va_G) (cl : List vw_C) (N : Nat) (ad : Nat → Nat) (wf : zs_T → Nat → va_E) (nL : Nat) (ov : Int32 → Option Value) (out : zs_O) (σ : zs_T) (pc : Nat) (lv : List (Nat × Value)) (st : List Value) : Prop :=
  ∀ (H : Heap) (locs : List Loc) (ls : Array Slot), va_P D cl (zs_wl N ad (wf σ)) H → va_S (zs_A N ad s.heap.size) s.heap H locs → lv_has ls nL lv → W p l e R s m args below meth c H locs 0 0 (MQ below (zs_Q D cl N ad wf s.heap.size ov out) args s 0 0 (zs_A N ad s.heap.size)) (F0 m pc ls st)
def zs_C (p : Program) (s : State) (m : MethodId) (args : Array Value) (meth : Method) (c : Code) (cc : ByteArray) (nL : Nat) (Ts : List Cond) (own : String) (D : va_G) (cl : List vw_C) (tys : List (ClassId × FieldType)) (N : Nat) (ad : Nat → Nat) : Prop := CallFix p m c cc nL s args Ts own ∧ va_K D cl tys s ∧ zs_J N ad ∧ meth.locks = false
/-- a method's contract in these words -/
def zs_M (l : Launch) (D : va_G) (cl : List vw_C) (tys : List (ClassId × FieldType)) (N : Nat) (ad : Nat → Nat) (wf : zs_T → Nat → va_E) (y : MethodName) (ws : List Cond) (rm : Room) (av : List Value) (ov : Int32 → Option Value) (σ : zs_T) (out : zs_O) : Prop :=
  ∀ sz : Nat, Met l y ws rm (va_Pc av (fun U => U.heap.size = sz ∧ va_P D cl (zs_wl N ad (wf σ)) U.heap ∧ va_K D cl tys U)) (zs_Q D cl N ad wf sz ov out) 0 0 (zs_A N ad sz)
section ZSR
variable {p : Program} {l : Launch} {e : Env} {R : Room} {s : State} {m : MethodId} {args : Array Value} {below : List Frame} {meth : Method} {c : Code} {D : va_G} {cl : List vw_C} {tys : List (ClassId × FieldType)} {N : Nat} {ad : Nat → Nat} {wf : zs_T → Nat → va_E} {nL : Nat} {cc : ByteArray} {Ts : List Cond} {own : String} {ov : Int32 → Option Value} {out : zs_O} {σ : zs_T} {pc : Nat} {lv lv' : List (Nat × Value)} {st rest : List Value}
theorem zs_iconst (C : zs_C p s m args meth c cc nL Ts own D cl tys N ad) {n : Int} {v : Int32} (hdg : decode cc pc = .ok (.iconst n, 1)) (hv : Int32.ofInt n = v)
    (kk : zs_Z p l e R s m args below meth c D cl N ad wf nL ov out σ (pc + 1) lv (.int v :: st)) : zs_Z p l e R s m args below meth c D cl N ad wf nL ov out σ pc lv (st) :=
  fun H locs ls hP hS hl => lv_iconst C.1.1 C.1.2.1 hdg hv (kk H locs ls hP hS hl)
theorem zs_bipush (C : zs_C p s m args meth c cc nL Ts own D cl tys N ad) {n : Int} {v : Int32} (hdg : decode cc pc = .ok (.bipush n, 2)) (hv : (Int8.ofInt n).toInt32 = v)
    (kk : zs_Z p l e R s m args below meth c D cl N ad wf nL ov out σ (pc + 2) lv (.int v :: st)) : zs_Z p l e R s m args below meth c D cl N ad wf nL ov out σ pc lv (st) :=
  fun H locs ls hP hS hl => lv_bipush C.1.1 C.1.2.1 hdg hv (kk H locs ls hP hS hl)
theorem zs_sipush (C : zs_C p s m args meth c cc nL Ts own D cl tys N ad) {n : Int} {v : Int32} (hdg : decode cc pc = .ok (.sipush n, 3)) (hv : (Int16.ofInt n).toInt32 = v)
    (kk : zs_Z p l e R s m args below meth c D cl N ad wf nL ov out σ (pc + 3) lv (.int v :: st)) : zs_Z p l e R s m args below meth c D cl N ad wf nL ov out σ pc lv (st) :=
  fun H locs ls hP hS hl => lv_sipush C.1.1 C.1.2.1 hdg hv (kk H locs ls hP hS hl)
theorem zs_ldc (C : zs_C p s m args meth c cc nL Ts own D cl tys N ad) {index : Nat} {v : Int32} (hw : Cond.constant own index v ∈ Ts) (hdg : decode cc pc = .ok (.ldc index, 2))
    (kk : zs_Z p l e R s m args below meth c D cl N ad wf nL ov out σ (pc + 2) lv (.int v :: st)) : zs_Z p l e R s m args below meth c D cl N ad wf nL ov out σ pc lv (st) :=
  fun H locs ls hP hS hl => lv_ldc C.1.1 C.1.2.1 C.1.2.2.2.1 (C.1.2.2.2.2 _ hw) hdg (kk H locs ls hP hS hl)
theorem zs_iload_n (C : zs_C p s m args meth c cc nL Ts own D cl tys N ad) {kf : Fin 4} {i k : Nat} {x : Int32} (hdg : decode cc pc = .ok (.iload_n kf, 1)) (hi : (kf : Nat) = i) (hk : lv[k]? = some (i, .int x))
    (kk : zs_Z p l e R s m args below meth c D cl N ad wf nL ov out σ (pc + 1) lv (.int x :: st)) : zs_Z p l e R s m args below meth c D cl N ad wf nL ov out σ pc lv (st) :=
  fun H locs ls hP hS hl => lv_iload_n C.1.1 C.1.2.1 hdg hi (lv_at hl k hk) (kk H locs ls hP hS hl)
theorem zs_iload (C : zs_C p s m args meth c cc nL Ts own D cl tys N ad) {i k : Nat} {x : Int32} (hdg : decode cc pc = .ok (.iload i, 2)) (hk : lv[k]? = some (i, .int x))
    (kk : zs_Z p l e R s m args below meth c D cl N ad wf nL ov out σ (pc + 2) lv (.int x :: st)) : zs_Z p l e R s m args below meth c D cl N ad wf nL ov out σ pc lv (st) :=
  fun H locs ls hP hS hl => lv_iload C.1.1 C.1.2.1 hdg (lv_at hl k hk) (kk H locs ls hP hS hl)
theorem zs_istore_n (C : zs_C p s m args meth c cc nL Ts own D cl tys N ad) {kf : Fin 4} {i : Nat} {x : Int32} (hdg : decode cc pc = .ok (.istore_n kf, 1)) (hi : (kf : Nat) = i) (hn : i < nL) (hv : (i, Value.int x) :: lv.filter (fun q => !(q.1 == i) && !(q.1 + 1 == i && q.2.category == 2)) = lv')
    (kk : zs_Z p l e R s m args below meth c D cl N ad wf nL ov out σ (pc + 1) lv' (st)) : zs_Z p l e R s m args below meth c D cl N ad wf nL ov out σ pc lv (.int x :: st) :=
  fun H locs ls hP hS hl => lv_istore_n C.1.1 C.1.2.1 hdg hi hl hn hv (fun ls hl => kk H locs ls hP hS hl)
theorem zs_istore (C : zs_C p s m args meth c cc nL Ts own D cl tys N ad) {i : Nat} {x : Int32} (hdg : decode cc pc = .ok (.istore i, 2)) (hn : i < nL) (hv : (i, Value.int x) :: lv.filter (fun q => !(q.1 == i) && !(q.1 + 1 == i && q.2.category == 2)) = lv')
    (kk : zs_Z p l e R s m args below meth c D cl N ad wf nL ov out σ (pc + 2) lv' (st)) : zs_Z p l e R s m args below meth c D cl N ad wf nL ov out σ pc lv (.int x :: st) :=
  fun H locs ls hP hS hl => lv_istore C.1.1 C.1.2.1 hdg hl hn hv (fun ls hl => kk H locs ls hP hS hl)
theorem zs_aload_n (C : zs_C p s m args meth c cc nL Ts own D cl tys N ad) {kf : Fin 4} {i k : Nat} {x : Nat} (hdg : decode cc pc = .ok (.aload_n kf, 1)) (hi : (kf : Nat) = i) (hk : lv[k]? = some (i, .ref x))
    (kk : zs_Z p l e R s m args below meth c D cl N ad wf nL ov out σ (pc + 1) lv (.ref x :: st)) : zs_Z p l e R s m args below meth c D cl N ad wf nL ov out σ pc lv (st) :=
  fun H locs ls hP hS hl => lv_aload_n C.1.1 C.1.2.1 hdg hi (lv_at hl k hk) (kk H locs ls hP hS hl)
theorem zs_aload (C : zs_C p s m args meth c cc nL Ts own D cl tys N ad) {i k : Nat} {x : Nat} (hdg : decode cc pc = .ok (.aload i, 2)) (hk : lv[k]? = some (i, .ref x))
    (kk : zs_Z p l e R s m args below meth c D cl N ad wf nL ov out σ (pc + 2) lv (.ref x :: st)) : zs_Z p l e R s m args below meth c D cl N ad wf nL ov out σ pc lv (st) :=
  fun H locs ls hP hS hl => lv_aload C.1.1 C.1.2.1 hdg (lv_at hl k hk) (kk H locs ls hP hS hl)
theorem zs_astore_n (C : zs_C p s m args meth c cc nL Ts own D cl tys N ad) {kf : Fin 4} {i : Nat} {x : Nat} (hdg : decode cc pc = .ok (.astore_n kf, 1)) (hi : (kf : Nat) = i) (hn : i < nL) (hv : (i, Value.ref x) :: lv.filter (fun q => !(q.1 == i) && !(q.1 + 1 == i && q.2.category == 2)) = lv')
    (kk : zs_Z p l e R s m args below meth c D cl N ad wf nL ov out σ (pc + 1) lv' (st)) : zs_Z p l e R s m args below meth c D cl N ad wf nL ov out σ pc lv (.ref x :: st) :=
  fun H locs ls hP hS hl => lv_astore_n C.1.1 C.1.2.1 hdg hi hl hn hv (fun ls hl => kk H locs ls hP hS hl)
theorem zs_astore (C : zs_C p s m args meth c cc nL Ts own D cl tys N ad) {i : Nat} {x : Nat} (hdg : decode cc pc = .ok (.astore i, 2)) (hn : i < nL) (hv : (i, Value.ref x) :: lv.filter (fun q => !(q.1 == i) && !(q.1 + 1 == i && q.2.category == 2)) = lv')
    (kk : zs_Z p l e R s m args below meth c D cl N ad wf nL ov out σ (pc + 2) lv' (st)) : zs_Z p l e R s m args below meth c D cl N ad wf nL ov out σ pc lv (.ref x :: st) :=
  fun H locs ls hP hS hl => lv_astore C.1.1 C.1.2.1 hdg hl hn hv (fun ls hl => kk H locs ls hP hS hl)
theorem zs_iinc (C : zs_C p s m args meth c cc nL Ts own D cl tys N ad) {i k : Nat} {n : Int} {x v : Int32} (hdg : decode cc pc = .ok (.iinc i n, 3)) (hk : lv[k]? = some (i, .int x)) (hv : x + Int32.ofInt n = v) (hn : i < nL) (hl2 : (i, Value.int v) :: lv.filter (fun q => !(q.1 == i) && !(q.1 + 1 == i && q.2.category == 2)) = lv')
    (kk : zs_Z p l e R s m args below meth c D cl N ad wf nL ov out σ (pc + 3) lv' (st)) : zs_Z p l e R s m args below meth c D cl N ad wf nL ov out σ pc lv (st) :=
  fun H locs ls hP hS hl => lv_iinc C.1.1 C.1.2.1 hdg hl hk hv hn hl2 (fun ls hl => kk H locs ls hP hS hl)
theorem zs_iadd (C : zs_C p s m args meth c cc nL Ts own D cl tys N ad) {x y : Int32} (hdg : decode cc pc = .ok (.iadd, 1))
    (kk : zs_Z p l e R s m args below meth c D cl N ad wf nL ov out σ (pc + 1) lv (.int (x + y) :: st)) : zs_Z p l e R s m args below meth c D cl N ad wf nL ov out σ pc lv (.int y :: .int x :: st) :=
  fun H locs ls hP hS hl => lv_iadd C.1.1 C.1.2.1 hdg (kk H locs ls hP hS hl)
theorem zs_isub (C : zs_C p s m args meth c cc nL Ts own D cl tys N ad) {x y : Int32} (hdg : decode cc pc = .ok (.isub, 1))
    (kk : zs_Z p l e R s m args below meth c D cl N ad wf nL ov out σ (pc + 1) lv (.int (x - y) :: st)) : zs_Z p l e R s m args below meth c D cl N ad wf nL ov out σ pc lv (.int y :: .int x :: st) :=
  fun H locs ls hP hS hl => lv_isub C.1.1 C.1.2.1 hdg (kk H locs ls hP hS hl)
theorem zs_imul (C : zs_C p s m args meth c cc nL Ts own D cl tys N ad) {x y : Int32} (hdg : decode cc pc = .ok (.imul, 1))
    (kk : zs_Z p l e R s m args below meth c D cl N ad wf nL ov out σ (pc + 1) lv (.int (x * y) :: st)) : zs_Z p l e R s m args below meth c D cl N ad wf nL ov out σ pc lv (.int y :: .int x :: st) :=
  fun H locs ls hP hS hl => lv_imul C.1.1 C.1.2.1 hdg (kk H locs ls hP hS hl)
theorem zs_iand (C : zs_C p s m args meth c cc nL Ts own D cl tys N ad) {x y : Int32} (hdg : decode cc pc = .ok (.iand, 1))
    (kk : zs_Z p l e R s m args below meth c D cl N ad wf nL ov out σ (pc + 1) lv (.int (x &&& y) :: st)) : zs_Z p l e R s m args below meth c D cl N ad wf nL ov out σ pc lv (.int y :: .int x :: st) :=
  fun H locs ls hP hS hl => lv_iand C.1.1 C.1.2.1 hdg (kk H locs ls hP hS hl)
theorem zs_ior (C : zs_C p s m args meth c cc nL Ts own D cl tys N ad) {x y : Int32} (hdg : decode cc pc = .ok (.ior, 1))
    (kk : zs_Z p l e R s m args below meth c D cl N ad wf nL ov out σ (pc + 1) lv (.int (x ||| y) :: st)) : zs_Z p l e R s m args below meth c D cl N ad wf nL ov out σ pc lv (.int y :: .int x :: st) :=
  fun H locs ls hP hS hl => lv_ior C.1.1 C.1.2.1 hdg (kk H locs ls hP hS hl)
theorem zs_ixor (C : zs_C p s m args meth c cc nL Ts own D cl tys N ad) {x y : Int32} (hdg : decode cc pc = .ok (.ixor, 1))
    (kk : zs_Z p l e R s m args below meth c D cl N ad wf nL ov out σ (pc + 1) lv (.int (x ^^^ y) :: st)) : zs_Z p l e R s m args below meth c D cl N ad wf nL ov out σ pc lv (.int y :: .int x :: st) :=
  fun H locs ls hP hS hl => lv_ixor C.1.1 C.1.2.1 hdg (kk H locs ls hP hS hl)
theorem zs_ishr (C : zs_C p s m args meth c cc nL Ts own D cl tys N ad) {x y : Int32} (hdg : decode cc pc = .ok (.ishr, 1))
    (kk : zs_Z p l e R s m args below meth c D cl N ad wf nL ov out σ (pc + 1) lv (.int (x >>> (y &&& 31)) :: st)) : zs_Z p l e R s m args below meth c D cl N ad wf nL ov out σ pc lv (.int y :: .int x :: st) :=
  fun H locs ls hP hS hl => lv_ishr C.1.1 C.1.2.1 hdg (kk H locs ls hP hS hl)
theorem zs_ishl (C : zs_C p s m args meth c cc nL Ts own D cl tys N ad) {x y : Int32} (hdg : decode cc pc = .ok (.ishl, 1))
    (kk : zs_Z p l e R s m args below meth c D cl N ad wf nL ov out σ (pc + 1) lv (.int (x <<< (y &&& 31)) :: st)) : zs_Z p l e R s m args below meth c D cl N ad wf nL ov out σ pc lv (.int y :: .int x :: st) :=
  fun H locs ls hP hS hl => lv_ishl C.1.1 C.1.2.1 hdg (kk H locs ls hP hS hl)
theorem zs_idiv (C : zs_C p s m args meth c cc nL Ts own D cl tys N ad) {x y : Int32} (hdg : decode cc pc = .ok (.idiv, 1)) (hne : ¬ y = 0)
    (kk : zs_Z p l e R s m args below meth c D cl N ad wf nL ov out σ (pc + 1) lv (.int (x / y) :: st)) : zs_Z p l e R s m args below meth c D cl N ad wf nL ov out σ pc lv (.int y :: .int x :: st) :=
  fun H locs ls hP hS hl => lv_idiv C.1.1 C.1.2.1 hdg hne (kk H locs ls hP hS hl)
theorem zs_irem (C : zs_C p s m args meth c cc nL Ts own D cl tys N ad) {x y : Int32} (hdg : decode cc pc = .ok (.irem, 1)) (hne : ¬ y = 0)
    (kk : zs_Z p l e R s m args below meth c D cl N ad wf nL ov out σ (pc + 1) lv (.int (x - x / y * y) :: st)) : zs_Z p l e R s m args below meth c D cl N ad wf nL ov out σ pc lv (.int y :: .int x :: st) :=
  fun H locs ls hP hS hl => lv_irem C.1.1 C.1.2.1 hdg hne (kk H locs ls hP hS hl)
theorem zs_ineg (C : zs_C p s m args meth c cc nL Ts own D cl tys N ad) {x : Int32} (hdg : decode cc pc = .ok (.ineg, 1))
    (kk : zs_Z p l e R s m args below meth c D cl N ad wf nL ov out σ (pc + 1) lv (.int (-x) :: st)) : zs_Z p l e R s m args below meth c D cl N ad wf nL ov out σ pc lv (.int x :: st) :=
  fun H locs ls hP hS hl => lv_ineg C.1.1 C.1.2.1 hdg (kk H locs ls hP hS hl)
theorem zs_dup (C : zs_C p s m args meth c cc nL Ts own D cl tys N ad) {va : Value} (hdg : decode cc pc = .ok (.dup, 1)) (hva : va.category = 1)
    (kk : zs_Z p l e R s m args below meth c D cl N ad wf nL ov out σ (pc + 1) lv (va :: va :: st)) : zs_Z p l e R s m args below meth c D cl N ad wf nL ov out σ pc lv (va :: st) :=
  fun H locs ls hP hS hl => lv_dup C.1.1 C.1.2.1 hdg hva (kk H locs ls hP hS hl)
theorem zs_pop (C : zs_C p s m args meth c cc nL Ts own D cl tys N ad) {va : Value} (hdg : decode cc pc = .ok (.pop, 1)) (hva : va.category = 1)
    (kk : zs_Z p l e R s m args below meth c D cl N ad wf nL ov out σ (pc + 1) lv (st)) : zs_Z p l e R s m args below meth c D cl N ad wf nL ov out σ pc lv (va :: st) :=
  fun H locs ls hP hS hl => lv_pop C.1.1 C.1.2.1 hdg hva (kk H locs ls hP hS hl)
theorem zs_dup_x1 (C : zs_C p s m args meth c cc nL Ts own D cl tys N ad) {va vb : Value} (hdg : decode cc pc = .ok (.dup_x1, 1)) (hva : va.category = 1) (hvb : vb.category = 1)
    (kk : zs_Z p l e R s m args below meth c D cl N ad wf nL ov out σ (pc + 1) lv (va :: vb :: va :: st)) : zs_Z p l e R s m args below meth c D cl N ad wf nL ov out σ pc lv (va :: vb :: st) :=
  fun H locs ls hP hS hl => lv_dup_x1 C.1.1 C.1.2.1 hdg hva hvb (kk H locs ls hP hS hl)
theorem zs_dup2 (C : zs_C p s m args meth c cc nL Ts own D cl tys N ad) {va vb : Value} (hdg : decode cc pc = .ok (.dup2, 1)) (hva : va.category = 1) (hvb : vb.category = 1)
    (kk : zs_Z p l e R s m args below meth c D cl N ad wf nL ov out σ (pc + 1) lv (va :: vb :: va :: vb :: st)) : zs_Z p l e R s m args below meth c D cl N ad wf nL ov out σ pc lv (va :: vb :: st) :=
  fun H locs ls hP hS hl => lv_dup2_11 C.1.1 C.1.2.1 hdg hva hvb (kk H locs ls hP hS hl)
theorem zs_goto (C : zs_C p s m args meth c cc nL Ts own D cl tys N ad) {off : Int} {tgt : Nat} (hdg : decode cc pc = .ok (.goto off, 3)) (ht : (pc : Int) + off = (tgt : Int))
    (kk : zs_Z p l e R s m args below meth c D cl N ad wf nL ov out σ tgt lv (st)) : zs_Z p l e R s m args below meth c D cl N ad wf nL ov out σ pc lv (st) :=
  fun H locs ls hP hS hl => lv_goto C.1.1 C.1.2.1 hdg ht (kk H locs ls hP hS hl)
theorem zs_if {cnd : Prop} {dc : Decidable cnd} {o1 o2 : zs_O} (kt : cnd → zs_Z p l e R s m args below meth c D cl N ad wf nL ov o1 σ pc lv (st)) (kf : ¬ cnd → zs_Z p l e R s m args below meth c D cl N ad wf nL ov o2 σ pc lv (st)) : zs_Z p l e R s m args below meth c D cl N ad wf nL ov (if cnd then o1 else o2) σ pc lv (st) := by
  by_cases h : cnd
  · rw [if_pos h]; exact kt h
  · rw [if_neg h]; exact kf h
theorem zs_ifP {cnd : Prop} {dc : Decidable cnd} {σ0 : zs_T} {r1 r2 : Int32} (kt : cnd → zs_Z p l e R s m args below meth c D cl N ad wf nL ov (σ0, r1) σ pc lv (st)) (kf : ¬ cnd → zs_Z p l e R s m args below meth c D cl N ad wf nL ov (σ0, r2) σ pc lv (st)) : zs_Z p l e R s m args below meth c D cl N ad wf nL ov (σ0, if cnd then r1 else r2) σ pc lv (st) := by
  by_cases h : cnd
  · rw [if_pos h]; exact kt h
  · rw [if_neg h]; exact kf h
theorem zs_nlt {x y : Int32} : ¬ x < y ↔ y ≤ x := by rw [Int32.lt_iff_toInt_lt, Int32.le_iff_toInt_le]; omega
theorem zs_icmp_eq (C : zs_C p s m args meth c cc nL Ts own D cl tys N ad) {x y : Int32} {o1 o2 : zs_O} {off : Int} {tgt : Nat} (hdg : decode cc pc = .ok (.if_icmp .eq off, 3)) (ht : (pc : Int) + off = (tgt : Int))
    (kt : x = y → zs_Z p l e R s m args below meth c D cl N ad wf nL ov o1 σ tgt lv (st))
    (kf : ¬ x = y → zs_Z p l e R s m args below meth c D cl N ad wf nL ov o2 σ (pc + 3) lv (st)) : zs_Z p l e R s m args below meth c D cl N ad wf nL ov (if x = y then o1 else o2) σ pc lv (.int y :: .int x :: st) := by
  refine zs_if (fun h => ?_) (fun h => ?_)
  · exact fun H locs ls hP hS hl => lv_icmp_eq C.1.1 C.1.2.1 hdg ht (fun _ => kt h H locs ls hP hS hl) (fun q => absurd h q)
  · exact fun H locs ls hP hS hl => lv_icmp_eq C.1.1 C.1.2.1 hdg ht (fun q => absurd q h) (fun _ => kf h H locs ls hP hS hl)
theorem zs_icmp_eqP (C : zs_C p s m args meth c cc nL Ts own D cl tys N ad) {x y : Int32} {σ0 : zs_T} {r1 r2 : Int32} {off : Int} {tgt : Nat} (hdg : decode cc pc = .ok (.if_icmp .eq off, 3)) (ht : (pc : Int) + off = (tgt : Int))
    (kt : x = y → zs_Z p l e R s m args below meth c D cl N ad wf nL ov (σ0, r1) σ tgt lv (st))
    (kf : ¬ x = y → zs_Z p l e R s m args below meth c D cl N ad wf nL ov (σ0, r2) σ (pc + 3) lv (st)) : zs_Z p l e R s m args below meth c D cl N ad wf nL ov (σ0, if x = y then r1 else r2) σ pc lv (.int y :: .int x :: st) := by
  refine zs_ifP (fun h => ?_) (fun h => ?_)
  · exact fun H locs ls hP hS hl => lv_icmp_eq C.1.1 C.1.2.1 hdg ht (fun _ => kt h H locs ls hP hS hl) (fun q => absurd h q)
  · exact fun H locs ls hP hS hl => lv_icmp_eq C.1.1 C.1.2.1 hdg ht (fun q => absurd q h) (fun _ => kf h H locs ls hP hS hl)
theorem zs_icmp_ne (C : zs_C p s m args meth c cc nL Ts own D cl tys N ad) {x y : Int32} {o1 o2 : zs_O} {off : Int} {tgt : Nat} (hdg : decode cc pc = .ok (.if_icmp .ne off, 3)) (ht : (pc : Int) + off = (tgt : Int))
    (kt : x = y → zs_Z p l e R s m args below meth c D cl N ad wf nL ov o1 σ (pc + 3) lv (st))
    (kf : ¬ x = y → zs_Z p l e R s m args below meth c D cl N ad wf nL ov o2 σ tgt lv (st)) : zs_Z p l e R s m args below meth c D cl N ad wf nL ov (if x = y then o1 else o2) σ pc lv (.int y :: .int x :: st) := by
  refine zs_if (fun h => ?_) (fun h => ?_)
  · exact fun H locs ls hP hS hl => lv_icmp_ne C.1.1 C.1.2.1 hdg ht (fun q => absurd h q) (fun _ => kt h H locs ls hP hS hl)
  · exact fun H locs ls hP hS hl => lv_icmp_ne C.1.1 C.1.2.1 hdg ht (fun _ => kf h H locs ls hP hS hl) (fun q => absurd q h)
theorem zs_icmp_neP (C : zs_C p s m args meth c cc nL Ts own D cl tys N ad) {x y : Int32} {σ0 : zs_T} {r1 r2 : Int32} {off : Int} {tgt : Nat} (hdg : decode cc pc = .ok (.if_icmp .ne off, 3)) (ht : (pc : Int) + off = (tgt : Int))
    (kt : x = y → zs_Z p l e R s m args below meth c D cl N ad wf nL ov (σ0, r1) σ (pc + 3) lv (st))
    (kf : ¬ x = y → zs_Z p l e R s m args below meth c D cl N ad wf nL ov (σ0, r2) σ tgt lv (st)) : zs_Z p l e R s m args below meth c D cl N ad wf nL ov (σ0, if x = y then r1 else r2) σ pc lv (.int y :: .int x :: st) := by
  refine zs_ifP (fun h => ?_) (fun h => ?_)
  · exact fun H locs ls hP hS hl => lv_icmp_ne C.1.1 C.1.2.1 hdg ht (fun q => absurd h q) (fun _ => kt h H locs ls hP hS hl)
  · exact fun H locs ls hP hS hl => lv_icmp_ne C.1.1 C.1.2.1 hdg ht (fun _ => kf h H locs ls hP hS hl) (fun q => absurd q h)
theorem zs_icmp_lt (C : zs_C p s m args meth c cc nL Ts own D cl tys N ad) {x y : Int32} {o1 o2 : zs_O} {off : Int} {tgt : Nat} (hdg : decode cc pc = .ok (.if_icmp .lt off, 3)) (ht : (pc : Int) + off = (tgt : Int))
    (kt : x < y → zs_Z p l e R s m args below meth c D cl N ad wf nL ov o1 σ tgt lv (st))
    (kf : ¬ x < y → zs_Z p l e R s m args below meth c D cl N ad wf nL ov o2 σ (pc + 3) lv (st)) : zs_Z p l e R s m args below meth c D cl N ad wf nL ov (if x < y then o1 else o2) σ pc lv (.int y :: .int x :: st) := by
  refine zs_if (fun h => ?_) (fun h => ?_)
  · exact fun H locs ls hP hS hl => lv_icmp_lt C.1.1 C.1.2.1 hdg ht (fun _ => kt h H locs ls hP hS hl) (fun q => absurd h q)
  · exact fun H locs ls hP hS hl => lv_icmp_lt C.1.1 C.1.2.1 hdg ht (fun q => absurd q h) (fun _ => kf h H locs ls hP hS hl)
theorem zs_icmp_ltP (C : zs_C p s m args meth c cc nL Ts own D cl tys N ad) {x y : Int32} {σ0 : zs_T} {r1 r2 : Int32} {off : Int} {tgt : Nat} (hdg : decode cc pc = .ok (.if_icmp .lt off, 3)) (ht : (pc : Int) + off = (tgt : Int))
    (kt : x < y → zs_Z p l e R s m args below meth c D cl N ad wf nL ov (σ0, r1) σ tgt lv (st))
    (kf : ¬ x < y → zs_Z p l e R s m args below meth c D cl N ad wf nL ov (σ0, r2) σ (pc + 3) lv (st)) : zs_Z p l e R s m args below meth c D cl N ad wf nL ov (σ0, if x < y then r1 else r2) σ pc lv (.int y :: .int x :: st) := by
  refine zs_ifP (fun h => ?_) (fun h => ?_)
  · exact fun H locs ls hP hS hl => lv_icmp_lt C.1.1 C.1.2.1 hdg ht (fun _ => kt h H locs ls hP hS hl) (fun q => absurd h q)
  · exact fun H locs ls hP hS hl => lv_icmp_lt C.1.1 C.1.2.1 hdg ht (fun q => absurd q h) (fun _ => kf h H locs ls hP hS hl)
theorem zs_icmp_ge (C : zs_C p s m args meth c cc nL Ts own D cl tys N ad) {x y : Int32} {o1 o2 : zs_O} {off : Int} {tgt : Nat} (hdg : decode cc pc = .ok (.if_icmp .ge off, 3)) (ht : (pc : Int) + off = (tgt : Int))
    (kt : x < y → zs_Z p l e R s m args below meth c D cl N ad wf nL ov o1 σ (pc + 3) lv (st))
    (kf : ¬ x < y → zs_Z p l e R s m args below meth c D cl N ad wf nL ov o2 σ tgt lv (st)) : zs_Z p l e R s m args below meth c D cl N ad wf nL ov (if x < y then o1 else o2) σ pc lv (.int y :: .int x :: st) := by
  refine zs_if (fun h => ?_) (fun h => ?_)
  · exact fun H locs ls hP hS hl => lv_icmp_ge C.1.1 C.1.2.1 hdg ht (fun q => absurd h (zs_nlt.mpr q)) (fun _ => kt h H locs ls hP hS hl)
  · exact fun H locs ls hP hS hl => lv_icmp_ge C.1.1 C.1.2.1 hdg ht (fun _ => kf h H locs ls hP hS hl) (fun q => absurd (zs_nlt.mp h) q)
theorem zs_icmp_geP (C : zs_C p s m args meth c cc nL Ts own D cl tys N ad) {x y : Int32} {σ0 : zs_T} {r1 r2 : Int32} {off : Int} {tgt : Nat} (hdg : decode cc pc = .ok (.if_icmp .ge off, 3)) (ht : (pc : Int) + off = (tgt : Int))
    (kt : x < y → zs_Z p l e R s m args below meth c D cl N ad wf nL ov (σ0, r1) σ (pc + 3) lv (st))
    (kf : ¬ x < y → zs_Z p l e R s m args below meth c D cl N ad wf nL ov (σ0, r2) σ tgt lv (st)) : zs_Z p l e R s m args below meth c D cl N ad wf nL ov (σ0, if x < y then r1 else r2) σ pc lv (.int y :: .int x :: st) := by
  refine zs_ifP (fun h => ?_) (fun h => ?_)
  · exact fun H locs ls hP hS hl => lv_icmp_ge C.1.1 C.1.2.1 hdg ht (fun q => absurd h (zs_nlt.mpr q)) (fun _ => kt h H locs ls hP hS hl)
  · exact fun H locs ls hP hS hl => lv_icmp_ge C.1.1 C.1.2.1 hdg ht (fun _ => kf h H locs ls hP hS hl) (fun q => absurd (zs_nlt.mp h) q)
theorem zs_icmp_gt (C : zs_C p s m args meth c cc nL Ts own D cl tys N ad) {x y : Int32} {o1 o2 : zs_O} {off : Int} {tgt : Nat} (hdg : decode cc pc = .ok (.if_icmp .gt off, 3)) (ht : (pc : Int) + off = (tgt : Int))
    (kt : y < x → zs_Z p l e R s m args below meth c D cl N ad wf nL ov o1 σ tgt lv (st))
    (kf : ¬ y < x → zs_Z p l e R s m args below meth c D cl N ad wf nL ov o2 σ (pc + 3) lv (st)) : zs_Z p l e R s m args below meth c D cl N ad wf nL ov (if y < x then o1 else o2) σ pc lv (.int y :: .int x :: st) := by
  refine zs_if (fun h => ?_) (fun h => ?_)
  · exact fun H locs ls hP hS hl => lv_icmp_gt C.1.1 C.1.2.1 hdg ht (fun _ => kt h H locs ls hP hS hl) (fun q => absurd h q)
  · exact fun H locs ls hP hS hl => lv_icmp_gt C.1.1 C.1.2.1 hdg ht (fun q => absurd q h) (fun _ => kf h H locs ls hP hS hl)
theorem zs_icmp_gtP (C : zs_C p s m args meth c cc nL Ts own D cl tys N ad) {x y : Int32} {σ0 : zs_T} {r1 r2 : Int32} {off : Int} {tgt : Nat} (hdg : decode cc pc = .ok (.if_icmp .gt off, 3)) (ht : (pc : Int) + off = (tgt : Int))
    (kt : y < x → zs_Z p l e R s m args below meth c D cl N ad wf nL ov (σ0, r1) σ tgt lv (st))
    (kf : ¬ y < x → zs_Z p l e R s m args below meth c D cl N ad wf nL ov (σ0, r2) σ (pc + 3) lv (st)) : zs_Z p l e R s m args below meth c D cl N ad wf nL ov (σ0, if y < x then r1 else r2) σ pc lv (.int y :: .int x :: st) := by
  refine zs_ifP (fun h => ?_) (fun h => ?_)
  · exact fun H locs ls hP hS hl => lv_icmp_gt C.1.1 C.1.2.1 hdg ht (fun _ => kt h H locs ls hP hS hl) (fun q => absurd h q)
  · exact fun H locs ls hP hS hl => lv_icmp_gt C.1.1 C.1.2.1 hdg ht (fun q => absurd q h) (fun _ => kf h H locs ls hP hS hl)
theorem zs_icmp_le (C : zs_C p s m args meth c cc nL Ts own D cl tys N ad) {x y : Int32} {o1 o2 : zs_O} {off : Int} {tgt : Nat} (hdg : decode cc pc = .ok (.if_icmp .le off, 3)) (ht : (pc : Int) + off = (tgt : Int))
    (kt : y < x → zs_Z p l e R s m args below meth c D cl N ad wf nL ov o1 σ (pc + 3) lv (st))
    (kf : ¬ y < x → zs_Z p l e R s m args below meth c D cl N ad wf nL ov o2 σ tgt lv (st)) : zs_Z p l e R s m args below meth c D cl N ad wf nL ov (if y < x then o1 else o2) σ pc lv (.int y :: .int x :: st) := by
  refine zs_if (fun h => ?_) (fun h => ?_)
  · exact fun H locs ls hP hS hl => lv_icmp_le C.1.1 C.1.2.1 hdg ht (fun q => absurd h (zs_nlt.mpr q)) (fun _ => kt h H locs ls hP hS hl)
  · exact fun H locs ls hP hS hl => lv_icmp_le C.1.1 C.1.2.1 hdg ht (fun _ => kf h H locs ls hP hS hl) (fun q => absurd (zs_nlt.mp h) q)
theorem zs_icmp_leP (C : zs_C p s m args meth c cc nL Ts own D cl tys N ad) {x y : Int32} {σ0 : zs_T} {r1 r2 : Int32} {off : Int} {tgt : Nat} (hdg : decode cc pc = .ok (.if_icmp .le off, 3)) (ht : (pc : Int) + off = (tgt : Int))
    (kt : y < x → zs_Z p l e R s m args below meth c D cl N ad wf nL ov (σ0, r1) σ (pc + 3) lv (st))
    (kf : ¬ y < x → zs_Z p l e R s m args below meth c D cl N ad wf nL ov (σ0, r2) σ tgt lv (st)) : zs_Z p l e R s m args below meth c D cl N ad wf nL ov (σ0, if y < x then r1 else r2) σ pc lv (.int y :: .int x :: st) := by
  refine zs_ifP (fun h => ?_) (fun h => ?_)
  · exact fun H locs ls hP hS hl => lv_icmp_le C.1.1 C.1.2.1 hdg ht (fun q => absurd h (zs_nlt.mpr q)) (fun _ => kt h H locs ls hP hS hl)
  · exact fun H locs ls hP hS hl => lv_icmp_le C.1.1 C.1.2.1 hdg ht (fun _ => kf h H locs ls hP hS hl) (fun q => absurd (zs_nlt.mp h) q)
theorem zs_if_eq (C : zs_C p s m args meth c cc nL Ts own D cl tys N ad) {x : Int32} {o1 o2 : zs_O} {off : Int} {tgt : Nat} (hdg : decode cc pc = .ok (.ifCond .eq off, 3)) (ht : (pc : Int) + off = (tgt : Int))
    (kt : x = 0 → zs_Z p l e R s m args below meth c D cl N ad wf nL ov o1 σ tgt lv (st))
    (kf : ¬ x = 0 → zs_Z p l e R s m args below meth c D cl N ad wf nL ov o2 σ (pc + 3) lv (st)) : zs_Z p l e R s m args below meth c D cl N ad wf nL ov (if x = 0 then o1 else o2) σ pc lv (.int x :: st) := by
  refine zs_if (fun h => ?_) (fun h => ?_)
  · exact fun H locs ls hP hS hl => lv_if_eq C.1.1 C.1.2.1 hdg ht (fun _ => kt h H locs ls hP hS hl) (fun q => absurd h q)
  · exact fun H locs ls hP hS hl => lv_if_eq C.1.1 C.1.2.1 hdg ht (fun q => absurd q h) (fun _ => kf h H locs ls hP hS hl)
theorem zs_if_eqP (C : zs_C p s m args meth c cc nL Ts own D cl tys N ad) {x : Int32} {σ0 : zs_T} {r1 r2 : Int32} {off : Int} {tgt : Nat} (hdg : decode cc pc = .ok (.ifCond .eq off, 3)) (ht : (pc : Int) + off = (tgt : Int))
    (kt : x = 0 → zs_Z p l e R s m args below meth c D cl N ad wf nL ov (σ0, r1) σ tgt lv (st))
    (kf : ¬ x = 0 → zs_Z p l e R s m args below meth c D cl N ad wf nL ov (σ0, r2) σ (pc + 3) lv (st)) : zs_Z p l e R s m args below meth c D cl N ad wf nL ov (σ0, if x = 0 then r1 else r2) σ pc lv (.int x :: st) := by
  refine zs_ifP (fun h => ?_) (fun h => ?_)
  · exact fun H locs ls hP hS hl => lv_if_eq C.1.1 C.1.2.1 hdg ht (fun _ => kt h H locs ls hP hS hl) (fun q => absurd h q)
  · exact fun H locs ls hP hS hl => lv_if_eq C.1.1 C.1.2.1 hdg ht (fun q => absurd q h) (fun _ => kf h H locs ls hP hS hl)
theorem zs_if_ne (C : zs_C p s m args meth c cc nL Ts own D cl tys N ad) {x : Int32} {o1 o2 : zs_O} {off : Int} {tgt : Nat} (hdg : decode cc pc = .ok (.ifCond .ne off, 3)) (ht : (pc : Int) + off = (tgt : Int))
    (kt : x = 0 → zs_Z p l e R s m args below meth c D cl N ad wf nL ov o1 σ (pc + 3) lv (st))
    (kf : ¬ x = 0 → zs_Z p l e R s m args below meth c D cl N ad wf nL ov o2 σ tgt lv (st)) : zs_Z p l e R s m args below meth c D cl N ad wf nL ov (if x = 0 then o1 else o2) σ pc lv (.int x :: st) := by
  refine zs_if (fun h => ?_) (fun h => ?_)
  · exact fun H locs ls hP hS hl => lv_if_ne C.1.1 C.1.2.1 hdg ht (fun q => absurd h q) (fun _ => kt h H locs ls hP hS hl)
  · exact fun H locs ls hP hS hl => lv_if_ne C.1.1 C.1.2.1 hdg ht (fun _ => kf h H locs ls hP hS hl) (fun q => absurd q h)
theorem zs_if_neP (C : zs_C p s m args meth c cc nL Ts own D cl tys N ad) {x : Int32} {σ0 : zs_T} {r1 r2 : Int32} {off : Int} {tgt : Nat} (hdg : decode cc pc = .ok (.ifCond .ne off, 3)) (ht : (pc : Int) + off = (tgt : Int))
    (kt : x = 0 → zs_Z p l e R s m args below meth c D cl N ad wf nL ov (σ0, r1) σ (pc + 3) lv (st))
    (kf : ¬ x = 0 → zs_Z p l e R s m args below meth c D cl N ad wf nL ov (σ0, r2) σ tgt lv (st)) : zs_Z p l e R s m args below meth c D cl N ad wf nL ov (σ0, if x = 0 then r1 else r2) σ pc lv (.int x :: st) := by
  refine zs_ifP (fun h => ?_) (fun h => ?_)
  · exact fun H locs ls hP hS hl => lv_if_ne C.1.1 C.1.2.1 hdg ht (fun q => absurd h q) (fun _ => kt h H locs ls hP hS hl)
  · exact fun H locs ls hP hS hl => lv_if_ne C.1.1 C.1.2.1 hdg ht (fun _ => kf h H locs ls hP hS hl) (fun q => absurd q h)
theorem zs_if_lt (C : zs_C p s m args meth c cc nL Ts own D cl tys N ad) {x : Int32} {o1 o2 : zs_O} {off : Int} {tgt : Nat} (hdg : decode cc pc = .ok (.ifCond .lt off, 3)) (ht : (pc : Int) + off = (tgt : Int))
    (kt : x < 0 → zs_Z p l e R s m args below meth c D cl N ad wf nL ov o1 σ tgt lv (st))
    (kf : ¬ x < 0 → zs_Z p l e R s m args below meth c D cl N ad wf nL ov o2 σ (pc + 3) lv (st)) : zs_Z p l e R s m args below meth c D cl N ad wf nL ov (if x < 0 then o1 else o2) σ pc lv (.int x :: st) := by
  refine zs_if (fun h => ?_) (fun h => ?_)
  · exact fun H locs ls hP hS hl => lv_if_lt C.1.1 C.1.2.1 hdg ht (fun _ => kt h H locs ls hP hS hl) (fun q => absurd h q)
  · exact fun H locs ls hP hS hl => lv_if_lt C.1.1 C.1.2.1 hdg ht (fun q => absurd q h) (fun _ => kf h H locs ls hP hS hl)
theorem zs_if_ltP (C : zs_C p s m args meth c cc nL Ts own D cl tys N ad) {x : Int32} {σ0 : zs_T} {r1 r2 : Int32} {off : Int} {tgt : Nat} (hdg : decode cc pc = .ok (.ifCond .lt off, 3)) (ht : (pc : Int) + off = (tgt : Int))
    (kt : x < 0 → zs_Z p l e R s m args below meth c D cl N ad wf nL ov (σ0, r1) σ tgt lv (st))
    (kf : ¬ x < 0 → zs_Z p l e R s m args below meth c D cl N ad wf nL ov (σ0, r2) σ (pc + 3) lv (st)) : zs_Z p l e R s m args below meth c D cl N ad wf nL ov (σ0, if x < 0 then r1 else r2) σ pc lv (.int x :: st) := by
  refine zs_ifP (fun h => ?_) (fun h => ?_)
  · exact fun H locs ls hP hS hl => lv_if_lt C.1.1 C.1.2.1 hdg ht (fun _ => kt h H locs ls hP hS hl) (fun q => absurd h q)
  · exact fun H locs ls hP hS hl => lv_if_lt C.1.1 C.1.2.1 hdg ht (fun q => absurd q h) (fun _ => kf h H locs ls hP hS hl)
theorem zs_if_ge (C : zs_C p s m args meth c cc nL Ts own D cl tys N ad) {x : Int32} {o1 o2 : zs_O} {off : Int} {tgt : Nat} (hdg : decode cc pc = .ok (.ifCond .ge off, 3)) (ht : (pc : Int) + off = (tgt : Int))
    (kt : x < 0 → zs_Z p l e R s m args below meth c D cl N ad wf nL ov o1 σ (pc + 3) lv (st))
    (kf : ¬ x < 0 → zs_Z p l e R s m args below meth c D cl N ad wf nL ov o2 σ tgt lv (st)) : zs_Z p l e R s m args below meth c D cl N ad wf nL ov (if x < 0 then o1 else o2) σ pc lv (.int x :: st) := by
  refine zs_if (fun h => ?_) (fun h => ?_)
  · exact fun H locs ls hP hS hl => lv_if_ge C.1.1 C.1.2.1 hdg ht (fun q => absurd h (zs_nlt.mpr q)) (fun _ => kt h H locs ls hP hS hl)
  · exact fun H locs ls hP hS hl => lv_if_ge C.1.1 C.1.2.1 hdg ht (fun _ => kf h H locs ls hP hS hl) (fun q => absurd (zs_nlt.mp h) q)
theorem zs_if_geP (C : zs_C p s m args meth c cc nL Ts own D cl tys N ad) {x : Int32} {σ0 : zs_T} {r1 r2 : Int32} {off : Int} {tgt : Nat} (hdg : decode cc pc = .ok (.ifCond .ge off, 3)) (ht : (pc : Int) + off = (tgt : Int))
    (kt : x < 0 → zs_Z p l e R s m args below meth c D cl N ad wf nL ov (σ0, r1) σ (pc + 3) lv (st))
    (kf : ¬ x < 0 → zs_Z p l e R s m args below meth c D cl N ad wf nL ov (σ0, r2) σ tgt lv (st)) : zs_Z p l e R s m args below meth c D cl N ad wf nL ov (σ0, if x < 0 then r1 else r2) σ pc lv (.int x :: st) := by
  refine zs_ifP (fun h => ?_) (fun h => ?_)
  · exact fun H locs ls hP hS hl => lv_if_ge C.1.1 C.1.2.1 hdg ht (fun q => absurd h (zs_nlt.mpr q)) (fun _ => kt h H locs ls hP hS hl)
  · exact fun H locs ls hP hS hl => lv_if_ge C.1.1 C.1.2.1 hdg ht (fun _ => kf h H locs ls hP hS hl) (fun q => absurd (zs_nlt.mp h) q)
theorem zs_if_gt (C : zs_C p s m args meth c cc nL Ts own D cl tys N ad) {x : Int32} {o1 o2 : zs_O} {off : Int} {tgt : Nat} (hdg : decode cc pc = .ok (.ifCond .gt off, 3)) (ht : (pc : Int) + off = (tgt : Int))
    (kt : 0 < x → zs_Z p l e R s m args below meth c D cl N ad wf nL ov o1 σ tgt lv (st))
    (kf : ¬ 0 < x → zs_Z p l e R s m args below meth c D cl N ad wf nL ov o2 σ (pc + 3) lv (st)) : zs_Z p l e R s m args below meth c D cl N ad wf nL ov (if 0 < x then o1 else o2) σ pc lv (.int x :: st) := by
  refine zs_if (fun h => ?_) (fun h => ?_)
  · exact fun H locs ls hP hS hl => lv_if_gt C.1.1 C.1.2.1 hdg ht (fun _ => kt h H locs ls hP hS hl) (fun q => absurd h q)
  · exact fun H locs ls hP hS hl => lv_if_gt C.1.1 C.1.2.1 hdg ht (fun q => absurd q h) (fun _ => kf h H locs ls hP hS hl)
theorem zs_if_gtP (C : zs_C p s m args meth c cc nL Ts own D cl tys N ad) {x : Int32} {σ0 : zs_T} {r1 r2 : Int32} {off : Int} {tgt : Nat} (hdg : decode cc pc = .ok (.ifCond .gt off, 3)) (ht : (pc : Int) + off = (tgt : Int))
    (kt : 0 < x → zs_Z p l e R s m args below meth c D cl N ad wf nL ov (σ0, r1) σ tgt lv (st))
    (kf : ¬ 0 < x → zs_Z p l e R s m args below meth c D cl N ad wf nL ov (σ0, r2) σ (pc + 3) lv (st)) : zs_Z p l e R s m args below meth c D cl N ad wf nL ov (σ0, if 0 < x then r1 else r2) σ pc lv (.int x :: st) := by
  refine zs_ifP (fun h => ?_) (fun h => ?_)
  · exact fun H locs ls hP hS hl => lv_if_gt C.1.1 C.1.2.1 hdg ht (fun _ => kt h H locs ls hP hS hl) (fun q => absurd h q)
  · exact fun H locs ls hP hS hl => lv_if_gt C.1.1 C.1.2.1 hdg ht (fun q => absurd q h) (fun _ => kf h H locs ls hP hS hl)
theorem zs_if_le (C : zs_C p s m args meth c cc nL Ts own D cl tys N ad) {x : Int32} {o1 o2 : zs_O} {off : Int} {tgt : Nat} (hdg : decode cc pc = .ok (.ifCond .le off, 3)) (ht : (pc : Int) + off = (tgt : Int))
    (kt : 0 < x → zs_Z p l e R s m args below meth c D cl N ad wf nL ov o1 σ (pc + 3) lv (st))
    (kf : ¬ 0 < x → zs_Z p l e R s m args below meth c D cl N ad wf nL ov o2 σ tgt lv (st)) : zs_Z p l e R s m args below meth c D cl N ad wf nL ov (if 0 < x then o1 else o2) σ pc lv (.int x :: st) := by
  refine zs_if (fun h => ?_) (fun h => ?_)
  · exact fun H locs ls hP hS hl => lv_if_le C.1.1 C.1.2.1 hdg ht (fun q => absurd h (zs_nlt.mpr q)) (fun _ => kt h H locs ls hP hS hl)
  · exact fun H locs ls hP hS hl => lv_if_le C.1.1 C.1.2.1 hdg ht (fun _ => kf h H locs ls hP hS hl) (fun q => absurd (zs_nlt.mp h) q)
theorem zs_if_leP (C : zs_C p s m args meth c cc nL Ts own D cl tys N ad) {x : Int32} {σ0 : zs_T} {r1 r2 : Int32} {off : Int} {tgt : Nat} (hdg : decode cc pc = .ok (.ifCond .le off, 3)) (ht : (pc : Int) + off = (tgt : Int))
    (kt : 0 < x → zs_Z p l e R s m args below meth c D cl N ad wf nL ov (σ0, r1) σ (pc + 3) lv (st))
    (kf : ¬ 0 < x → zs_Z p l e R s m args below meth c D cl N ad wf nL ov (σ0, r2) σ tgt lv (st)) : zs_Z p l e R s m args below meth c D cl N ad wf nL ov (σ0, if 0 < x then r1 else r2) σ pc lv (.int x :: st) := by
  refine zs_ifP (fun h => ?_) (fun h => ?_)
  · exact fun H locs ls hP hS hl => lv_if_le C.1.1 C.1.2.1 hdg ht (fun q => absurd h (zs_nlt.mpr q)) (fun _ => kt h H locs ls hP hS hl)
  · exact fun H locs ls hP hS hl => lv_if_le C.1.1 C.1.2.1 hdg ht (fun _ => kf h H locs ls hP hS hl) (fun q => absurd (zs_nlt.mp h) q)
theorem zs_tabIn (C : zs_C p s m args meth c cc nL Ts own D cl tys N ad) {dflt lo hi : Int} {offs : Array Int} {len : Nat} {x kx : Int32} {off : Int} {tgt : Nat} (hdg : decode cc pc = .ok (.tableswitch dflt lo hi offs, len)) (hx : x = kx) (h1 : ¬ kx.toInt < lo) (h2 : ¬ hi < kx.toInt) (ho : offs[(kx.toInt - lo).toNat]? = some off) (ht : (pc : Int) + off = (tgt : Int))
    (kk : zs_Z p l e R s m args below meth c D cl N ad wf nL ov out σ tgt lv (st)) : zs_Z p l e R s m args below meth c D cl N ad wf nL ov out σ pc lv (.int x :: st) :=
  fun H locs ls hP hS hl => by subst hx; exact lv_tableIn C.1.1 C.1.2.1 hdg h1 h2 ho ht (kk H locs ls hP hS hl)
theorem zs_tabOut (C : zs_C p s m args meth c cc nL Ts own D cl tys N ad) {dflt lo hi : Int} {offs : Array Int} {len : Nat} {x : Int32} {tgt : Nat} (hdg : decode cc pc = .ok (.tableswitch dflt lo hi offs, len)) (h : x.toInt < lo ∨ hi < x.toInt) (ht : (pc : Int) + dflt = (tgt : Int))
    (kk : zs_Z p l e R s m args below meth c D cl N ad wf nL ov out σ tgt lv (st)) : zs_Z p l e R s m args below meth c D cl N ad wf nL ov out σ pc lv (.int x :: st) :=
  fun H locs ls hP hS hl => lv_tableOut C.1.1 C.1.2.1 hdg h ht (kk H locs ls hP hS hl)
theorem zs_lookup (C : zs_C p s m args meth c cc nL Ts own D cl tys N ad) {dflt : Int} {ps : Array (Int × Int)} {len : Nat} {x : Int32} {off : Int} {tgt : Nat} (hdg : decode cc pc = .ok (.lookupswitch dflt ps, len)) (hp : (ps.toList.zip (ps.toList.drop 1)).all (fun (a, next) => a.1 < next.1) = true) (ho : Op.lookupswitch.offset ps.toList dflt x.toInt = off) (ht : (pc : Int) + off = (tgt : Int))
    (kk : zs_Z p l e R s m args below meth c D cl N ad wf nL ov out σ tgt lv (st)) : zs_Z p l e R s m args below meth c D cl N ad wf nL ov out σ pc lv (.int x :: st) :=
  fun H locs ls hP hS hl => lv_lookup C.1.1 C.1.2.1 hdg hp ho ht (kk H locs ls hP hS hl)
theorem zs_get (C : zs_C p s m args meth c cc nL Ts own D cl tys N ad) {Cn : String} {T : u_T} {NF ci index : Nat} (hin : ∀ w ∈ u_ws Cn T NF, w ∈ Ts) (q0 : Nat) (hq : q0 < N) {fs : List Value} (he : wf σ q0 = .inr (ci, fs)) (hc : cl[ci]? = some (Cn, T, NF)) (k : Nat) (hk : k < NF) (hlink : Cond.fieldLink own index (T k).1 (T k).2.1 (T k).2.2.1 ∈ Ts) {v : Value} (hv : fs[k]? = some v) (hdg : decode cc pc = .ok (.getfield index, 3))
    (kk : zs_Z p l e R s m args below meth c D cl N ad wf nL ov out σ (pc + 3) lv (v :: st)) : zs_Z p l e R s m args below meth c D cl N ad wf nL ov out σ pc lv (.ref (ad q0) :: st) :=
  fun H locs ls hP hS hl => va_get C.1.1 C.1.2.1 C.1.2.2.2.2 hin C.1.2.2.2.1 C.2.1 hP q0 (by rw [zs_wl_get hq, he]) hc k hk (C.1.2.2.2.2 _ hlink) (fun _ h => h) hv hdg (kk H locs ls hP hS hl)
theorem zs_put (C : zs_C p s m args meth c cc nL Ts own D cl tys N ad) {Cn : String} {T : u_T} {NF ci index : Nat} (hin : ∀ w ∈ u_ws Cn T NF, w ∈ Ts) (ty0 : Nat → FieldType) (hty : ∀ k, k < NF → parseFieldDescriptor (T k).2.2.1 = some (ty0 k)) (hnm : ∀ a, a < NF → ∀ b, b < NF → a ≠ b → (T a).2.1 ≠ (T b).2.1) (q0 : Nat) {fs : List Value} (he : wf σ q0 = .inr (ci, fs)) (hc : cl[ci]? = some (Cn, T, NF)) (k : Nat) (hk : k < NF) (hlink : Cond.fieldLink own index (T k).1 (T k).2.1 (T k).2.2.1 ∈ Ts) (hfin : (T k).2.2.2 = false) {ty : FieldType} {v : Value} (hd : parseFieldDescriptor (T k).2.2.1 = some ty) (hn : narrow ty v = v) (hfit : fits ty v = true) (hlf : k < fs.length) {σ' : zs_T} (hset : zs_S N wf σ q0 (.inr (ci, fs.set k v)) σ') (hdg : decode cc pc = .ok (.putfield index, 3))
    (kk : zs_Z p l e R s m args below meth c D cl N ad wf nL ov out σ' (pc + 3) lv (st)) : zs_Z p l e R s m args below meth c D cl N ad wf nL ov out σ pc lv (v :: .ref (ad q0) :: st) :=
  fun H locs ls hP hS hl => va_put C.1.1 C.1.2.1 C.1.2.2.2.2 hin ty0 hty hnm C.1.2.2.2.1 C.2.1 hP (zs_D C.2.2.1) hS q0 (by rw [zs_wl_get hset.1, he]) hc k hk (C.1.2.2.2.2 _ hlink) (fun _ h => h) hfin hd hn hfit hlf hdg (fun H1 locs1 hP1 _ hS1 => kk H1 locs1 ls (by rw [← zs_wl_set hset]; exact hP1) hS1 hl)
theorem zs_iald (C : zs_C p s m args meth c cc nL Ts own D cl tys N ad) (q0 t0 : Nat) (hq : q0 < N) {cA : ClassId} {n : Nat} {f : Nat → Int32} (he : wf σ q0 = .inl (cA, n, .inl f)) (ht : tys[t0]? = some (cA, .int)) {i : Int32} (hin : vp_in i n) (hdg : decode cc pc = .ok (.iaload, 1))
    (kk : zs_Z p l e R s m args below meth c D cl N ad wf nL ov out σ (pc + 1) lv (.int (f i.toNatClampNeg) :: st)) : zs_Z p l e R s m args below meth c D cl N ad wf nL ov out σ pc lv (.int i :: .ref (ad q0) :: st) :=
  fun H locs ls hP hS hl => va_iald C.1.1 C.1.2.1 C.2.1 hP q0 t0 (by rw [zs_wl_get hq, he]) ht hin hdg (kk H locs ls hP hS hl)
theorem zs_zald (C : zs_C p s m args meth c cc nL Ts own D cl tys N ad) (q0 t0 : Nat) (hq : q0 < N) {cA : ClassId} {n : Nat} {f : Nat → Int32} (he : wf σ q0 = .inl (cA, n, .inl f)) (ht : tys[t0]? = some (cA, .boolean)) {i : Int32} (hin : vp_in i n) (hdg : decode cc pc = .ok (.baload, 1))
    (kk : zs_Z p l e R s m args below meth c D cl N ad wf nL ov out σ (pc + 1) lv (.int (f i.toNatClampNeg) :: st)) : zs_Z p l e R s m args below meth c D cl N ad wf nL ov out σ pc lv (.int i :: .ref (ad q0) :: st) :=
  fun H locs ls hP hS hl => va_zald C.1.1 C.1.2.1 C.2.1 hP q0 t0 (by rw [zs_wl_get hq, he]) ht hin hdg (kk H locs ls hP hS hl)
theorem zs_aald (C : zs_C p s m args meth c cc nL Ts own D cl tys N ad) (q0 t0 : Nat) (hq : q0 < N) {cA : ClassId} {Cn : String} {n : Nat} {f : Nat → Option Nat} (he : wf σ q0 = .inl (cA, n, .inr (.inr (.inr (.inr f))))) (ht : tys[t0]? = some (cA, .object Cn)) {i : Int32} (hin : vp_in i n) {a1 : Nat} (hv : f i.toNatClampNeg = some a1) (hdg : decode cc pc = .ok (.aaload, 1))
    (kk : zs_Z p l e R s m args below meth c D cl N ad wf nL ov out σ (pc + 1) lv (.ref a1 :: st)) : zs_Z p l e R s m args below meth c D cl N ad wf nL ov out σ pc lv (.int i :: .ref (ad q0) :: st) :=
  fun H locs ls hP hS hl => va_aldq C.1.1 C.1.2.1 C.2.1 hP q0 t0 (by rw [zs_wl_get hq, he]) ht hin hdg (by rw [hv]; exact kk H locs ls hP hS hl)
theorem zs_iast (C : zs_C p s m args meth c cc nL Ts own D cl tys N ad) (q0 t0 : Nat) {cA : ClassId} {n : Nat} {f : Nat → Int32} (he : wf σ q0 = .inl (cA, n, .inl f)) (ht : tys[t0]? = some (cA, .int)) {i x : Int32} (hin : vp_in i n) {σ' : zs_T} (hset : zs_S N wf σ q0 (.inl (cA, n, .inl (upd f i.toNatClampNeg x))) σ') (hdg : decode cc pc = .ok (.iastore, 1))
    (kk : zs_Z p l e R s m args below meth c D cl N ad wf nL ov out σ' (pc + 1) lv (st)) : zs_Z p l e R s m args below meth c D cl N ad wf nL ov out σ pc lv (.int x :: .int i :: .ref (ad q0) :: st) :=
  fun H locs ls hP hS hl => va_iast C.1.1 C.1.2.1 C.2.1 hP (zs_D C.2.2.1) hS q0 t0 (by rw [zs_wl_get hset.1, he]) ht hin hdg (fun H1 locs1 hP1 _ hS1 => kk H1 locs1 ls (by rw [← zs_wl_set hset]; exact hP1) hS1 hl)
theorem zs_zast (C : zs_C p s m args meth c cc nL Ts own D cl tys N ad) (q0 t0 : Nat) {cA : ClassId} {n : Nat} {f : Nat → Int32} (he : wf σ q0 = .inl (cA, n, .inl f)) (ht : tys[t0]? = some (cA, .boolean)) {i x : Int32} (hin : vp_in i n) {σ' : zs_T} (hset : zs_S N wf σ q0 (.inl (cA, n, .inl (upd f i.toNatClampNeg (vp_nar .boolean x)))) σ') (hdg : decode cc pc = .ok (.bastore, 1))
    (kk : zs_Z p l e R s m args below meth c D cl N ad wf nL ov out σ' (pc + 1) lv (st)) : zs_Z p l e R s m args below meth c D cl N ad wf nL ov out σ pc lv (.int x :: .int i :: .ref (ad q0) :: st) :=
  fun H locs ls hP hS hl => va_zast C.1.1 C.1.2.1 C.2.1 hP (zs_D C.2.2.1) hS q0 t0 (by rw [zs_wl_get hset.1, he]) ht hin hdg (fun H1 locs1 hP1 _ hS1 => kk H1 locs1 ls (by rw [← zs_wl_set hset]; exact hP1) hS1 hl)
theorem zs_alen (C : zs_C p s m args meth c cc nL Ts own D cl tys N ad) (q0 t0 : Nat) (hq : q0 < N) {cA : ClassId} {x : vp_A} (he : wf σ q0 = .inl (cA, x)) {ty : FieldType} (ht : tys[t0]? = some (cA, ty)) {v : Int32} (hv : Int32.ofNat x.1 = v) (hdg : decode cc pc = .ok (.arraylength, 1))
    (kk : zs_Z p l e R s m args below meth c D cl N ad wf nL ov out σ (pc + 1) lv (.int v :: st)) : zs_Z p l e R s m args below meth c D cl N ad wf nL ov out σ pc lv (.ref (ad q0) :: st) :=
  fun H locs ls hP hS hl => va_alen C.1.1 C.1.2.1 C.2.1 hP q0 t0 (by rw [zs_wl_get hq, he]) ht hv hdg (kk H locs ls hP hS hl)
theorem zs_iret (C : zs_C p s m args meth c cc nL Ts own D cl tys N ad) (hr : meth.sig.returnType = some .int) {v : Int32} (hdg : decode cc pc = .ok (.ireturn, 1)) : zs_Z p l e R s m args below meth c D cl N ad wf nL zs_vi (σ, v) σ pc lv [.int v] :=
  fun H locs ls hP hS hl => W.iret C.1.1 C.1.2.1 hr (fun t ht hW => ⟨⟨rfl, by rw [ht]; exact hP⟩, hS.F ht⟩) hS.2.2 hdg C.2.2.2
theorem zs_zret (C : zs_C p s m args meth c cc nL Ts own D cl tys N ad) (hr : meth.sig.returnType = some .boolean) {v : Int32} (hn : narrow .boolean (.int v) = .int v) (hdg : decode cc pc = .ok (.ireturn, 1)) : zs_Z p l e R s m args below meth c D cl N ad wf nL zs_vi (σ, v) σ pc lv [.int v] :=
  fun H locs ls hP hS hl => W.zret C.1.1 C.1.2.1 hr hn (fun t ht hW => ⟨⟨rfl, by rw [ht]; exact hP⟩, hS.F ht⟩) hS.2.2 hdg C.2.2.2
theorem zs_vret (C : zs_C p s m args meth c cc nL Ts own D cl tys N ad) (hr : meth.sig.returnType = none) (hdg : decode cc pc = .ok (.return_, 1)) : zs_Z p l e R s m args below meth c D cl N ad wf nL zs_vv (σ, 0) σ pc lv [] :=
  fun H locs ls hP hS hl => W.vret C.1.1 C.1.2.1 hr (fun t ht hW => ⟨⟨rfl, by rw [ht]; exact hP⟩, hS.F ht⟩) hS.2.2 hdg C.2.2.2
/-- fewer locals, or in another order -/
theorem zs_sub (ks : List Nat) (hks : lv_pick lv ks = lv') (kk : zs_Z p l e R s m args below meth c D cl N ad wf nL ov out σ pc lv' (st)) : zs_Z p l e R s m args below meth c D cl N ad wf nL ov out σ pc lv (st) :=
  fun H locs ls hP hS hl => kk H locs ls hP hS (lv_sub hl ks hks)
theorem zs_blind {av : List Value} {sz : Nat} : FrameBlind (va_Pc av (fun U => U.heap.size = sz ∧ va_P D cl (zs_wl N ad (wf σ)) U.heap ∧ va_K D cl tys U)) :=
  fun a U g mk q => by obtain ⟨q0, q1, qP, qK⟩ := q; exact ⟨q0, q1, qP, va_K.moved (u := U) (U := U.calling g mk a) (Vm.Alike.refl U.vm) qK⟩
/-- behind a call -/
theorem zs_back {ov1 : Int32 → Option Value} {out1 : zs_O} {H : Heap} {locs : List Loc} {ls : Array Slot} {a : Array Value} {st0 : List Value} (hS : va_S (zs_A N ad s.heap.size) s.heap H locs) (hl : lv_has ls nL lv)
    (hr : va_Run p l e R s m args below meth c H locs 0 0 0 0 (F0 m pc ls st0) rest (zs_Q D cl N ad wf H.size ov1 out1 a) (zs_A N ad H.size))
    (kk : zs_Z p l e R s m args below meth c D cl N ad wf nL ov out out1.1 (pc + 3) lv ((ov1 out1.2).toList ++ rest)) : W p l e R s m args below meth c H locs 0 0 (MQ below (zs_Q D cl N ad wf s.heap.size ov out) args s 0 0 (zs_A N ad s.heap.size)) (F0 m pc ls st0) := by
  intro T hT X
  obtain ⟨v, st₀, t, T', L, h0, X', hL, e1, e2, ⟨⟨hv, hp⟩, hz, hk⟩, st⟩ := hr T hT X
  have hv := Outcome.returned.inj hv
  subst hv
  rw [h0] at hz hk
  obtain ⟨t2, a1, b1⟩ := kk T'.heap (locs ++ L) ls (by rw [e1]; exact hp)
    ⟨Nat.le_trans hS.1 (by rw [e1]; exact hz), fun q h1 h2 => by rw [e1, hk q (Nat.lt_of_lt_of_le h1 hS.1) (fun z => h2 (zs_A.mono hS.1 z))]; exact hS.2.1 q h1 h2, fun q hq => by
      rcases List.mem_append.mp hq with h | h
      · exact hS.2.2 q h
      · exact zs_A.mono hS.1 (hL q h)⟩ hl T' rfl X'
  exact ⟨t2, st t2 a1, b1⟩
theorem zs_callVi (C : zs_C p s m args meth c cc nL Ts own D cl tys N ad) {y : MethodName} {ws : List Cond} {rm : Room} {q0 ci n index maxL : Nat} {As : List Value} {out1 : zs_O} {bytes : ByteArray} {ret : Option FieldType} {fs : List Value} {q1 : vw_C} (hM : zs_M l D cl tys N ad wf y ws rm (.ref (ad q0) :: As) zs_vi σ out1) (cw : CallW R s args own q1.1 index y bytes maxL ret ws rm 0 0 n) (hq : q0 < N) (he : wf σ q0 = .inr (ci, fs)) (hc : cl[ci]? = some q1) (hn : As.length = n) {st0 : List Value} (hst : st0 = As.reverse ++ .ref (ad q0) :: rest) (hW : (rest.map fun v => v.category).sum ≤ 8) (hdg : decode cc pc = .ok (.invokevirtual index, 3))
    (kk : zs_Z p l e R s m args below meth c D cl N ad wf nL ov out out1.1 (pc + 3) lv (.int out1.2 :: rest)) : zs_Z p l e R s m args below meth c D cl N ad wf nL ov out σ pc lv (st0) := by
  intro H locs ls hP hS hl
  refine zs_back hS hl (va_runV C.1 (hM H.size) cw ⟨zs_blind, va_recv C.2.1 hP hc (by rw [zs_wl_get hq, he]), fun U hU hW => ⟨rfl, by rw [hU], by rw [hU]; exact hP, va_K.moved hW.alike C.2.1⟩⟩ rfl hn hl.1 hst (lv_room hW) hdg ⟨Nat.zero_le _, Nat.zero_le _⟩) kk
theorem zs_callSi (C : zs_C p s m args meth c cc nL Ts own D cl tys N ad) {y : MethodName} {ws : List Cond} {rm : Room} {n index maxL : Nat} {As : List Value} {out1 : zs_O} {bytes : ByteArray} {ret : Option FieldType} (hM : zs_M l D cl tys N ad wf y ws rm As zs_vi σ out1) (cw : CallB R s args own index y bytes maxL ret ws rm 0 0 n ∧ (Cond.static y).before args s = true) (hn : As.length = n) {st0 : List Value} (hst : st0 = As.reverse ++ rest) (hW : (rest.map fun v => v.category).sum ≤ 8) (hdg : decode cc pc = .ok (.invokestatic index, 3))
    (kk : zs_Z p l e R s m args below meth c D cl N ad wf nL ov out out1.1 (pc + 3) lv (.int out1.2 :: rest)) : zs_Z p l e R s m args below meth c D cl N ad wf nL ov out σ pc lv (st0) := by
  intro H locs ls hP hS hl
  refine zs_back hS hl (va_runS C.1 (hM H.size) cw ⟨zs_blind, fun U hU hW => ⟨rfl, by rw [hU], by rw [hU]; exact hP, va_K.moved hW.alike C.2.1⟩⟩ rfl hn hl.1 hst (lv_room hW) hdg ⟨Nat.zero_le _, Nat.zero_le _⟩) kk
theorem zs_callVv (C : zs_C p s m args meth c cc nL Ts own D cl tys N ad) {y : MethodName} {ws : List Cond} {rm : Room} {q0 ci n index maxL : Nat} {As : List Value} {out1 : zs_O} {bytes : ByteArray} {ret : Option FieldType} {fs : List Value} {q1 : vw_C} (hM : zs_M l D cl tys N ad wf y ws rm (.ref (ad q0) :: As) zs_vv σ out1) (cw : CallW R s args own q1.1 index y bytes maxL ret ws rm 0 0 n) (hq : q0 < N) (he : wf σ q0 = .inr (ci, fs)) (hc : cl[ci]? = some q1) (hn : As.length = n) {st0 : List Value} (hst : st0 = As.reverse ++ .ref (ad q0) :: rest) (hW : (rest.map fun v => v.category).sum ≤ 8) (hdg : decode cc pc = .ok (.invokevirtual index, 3))
    (kk : zs_Z p l e R s m args below meth c D cl N ad wf nL ov out out1.1 (pc + 3) lv (rest)) : zs_Z p l e R s m args below meth c D cl N ad wf nL ov out σ pc lv (st0) := by
  intro H locs ls hP hS hl
  refine zs_back hS hl (va_runV C.1 (hM H.size) cw ⟨zs_blind, va_recv C.2.1 hP hc (by rw [zs_wl_get hq, he]), fun U hU hW => ⟨rfl, by rw [hU], by rw [hU]; exact hP, va_K.moved hW.alike C.2.1⟩⟩ rfl hn hl.1 hst (lv_room hW) hdg ⟨Nat.zero_le _, Nat.zero_le _⟩) kk
theorem zs_callSv (C : zs_C p s m args meth c cc nL Ts own D cl tys N ad) {y : MethodName} {ws : List Cond} {rm : Room} {n index maxL : Nat} {As : List Value} {out1 : zs_O} {bytes : ByteArray} {ret : Option FieldType} (hM : zs_M l D cl tys N ad wf y ws rm As zs_vv σ out1) (cw : CallB R s args own index y bytes maxL ret ws rm 0 0 n ∧ (Cond.static y).before args s = true) (hn : As.length = n) {st0 : List Value} (hst : st0 = As.reverse ++ rest) (hW : (rest.map fun v => v.category).sum ≤ 8) (hdg : decode cc pc = .ok (.invokestatic index, 3))
    (kk : zs_Z p l e R s m args below meth c D cl N ad wf nL ov out out1.1 (pc + 3) lv (rest)) : zs_Z p l e R s m args below meth c D cl N ad wf nL ov out σ pc lv (st0) := by
  intro H locs ls hP hS hl
  refine zs_back hS hl (va_runS C.1 (hM H.size) cw ⟨zs_blind, fun U hU hW => ⟨rfl, by rw [hU], by rw [hU]; exact hP, va_K.moved hW.alike C.2.1⟩⟩ rfl hn hl.1 hst (lv_room hW) hdg ⟨Nat.zero_le _, Nat.zero_le _⟩) kk
end ZSR
/-- a contract from a walk of the body -/
theorem zs_ofZ {l : Launch} {D : va_G} {cl : List vw_C} {tys : List (ClassId × FieldType)} {N : Nat} {ad : Nat → Nat} {wf : zs_T → Nat → va_E} {y : MethodName} {ws ws' : List Cond} {rm : Room} {av : List Value} {ov : Int32 → Option Value} {σ : zs_T} {out : zs_O} {cc : ByteArray} {nL : Nat} {ret : Option FieldType} {lv0 : List (Nat × Value)} (hy : plainName y.cls = true) (hw : ws = Cond.code y cc nL ret :: ws') (hJ : zs_J N ad) (hav : (lg_sl av).length ≤ nL) (hlv : lv_args 0 av = lv0)
    (body : ∀ (p : Program) (e : Env) (s : State) (m : MethodId) (args : Array Value) (below : List Frame) (meth : Method) (c : Code), zs_C p s m args meth c cc nL ws y.cls D cl tys N ad → meth.sig.returnType = ret → zs_Z p l e rm s m args below meth c D cl N ad wf nL ov out σ 0 lv0 []) : zs_M l D cl tys N ad wf y ws rm av ov σ out := by
  intro sz
  refine Met.ofW (cc := cc) (maxL := nL) (ret := ret) hy hw ?_
  intro p e s m args below meth c s₁ B hml hv
  obtain ⟨rfl, hsz, hP, hK⟩ := hv
  subst hsz
  subst hlv
  have hl := lv_entry av (n := nL) hav
  rw [lg_entry_eq]
  exact body p e s m av.toArray below meth c ⟨⟨B.exec, B.bytes, hml, findClass_of_methodNamed B.named, atoms_spec (ws := ws) B.pre⟩, hK, hJ, B.notSynchronized⟩ B.returns s.heap [] _ hP va_S.rf hl
end
section
/-- the words that every method is given: those of the tables that stay good -/
def zw_G : List Cond := lw_tbl.filter goodWord
theorem zw_mem {w : Cond} (i : Nat) (hi : lw_tbl[i]? = some w) (hg : goodWord w = true) : w ∈ zw_G := List.mem_filter.mpr ⟨List.mem_of_getElem? hi, hg⟩
theorem zw_sub {ws : List Cond} (ps : List Nat) (hp : ws = ps.filterMap (fun i => lw_tbl[i]?)) (hg : ws.all goodWord = true) : ∀ w ∈ ws, w ∈ zw_G := by
  intro w hw
  have h1 := List.all_eq_true.mp hg w hw
  rw [hp] at hw
  obtain ⟨i, -, hi⟩ := List.mem_filterMap.mp hw
  exact List.mem_filter.mpr ⟨List.mem_of_getElem? hi, h1⟩
theorem zw_in {w w0 : Cond} (h : w ∈ zw_G) : w ∈ w0 :: zw_G := List.mem_cons_of_mem _ h
theorem zw_good {w0 : Cond} {z : MethodName} {bz : ByteArray} {nz : Nat} {rz : Option FieldType} (hz : Cond.code z bz nz rz ∈ zw_G) : GoodIn (w0 :: zw_G) (Cond.code z bz nz rz :: zw_G) := by
  have key : ∀ w ∈ zw_G, w ∈ w0 :: zw_G ∧ ((w.onTables && w.keeps) = true ∨ ∃ ty, w = .arrayClass ty) := fun w h => ⟨zw_in h, good_of_word (List.mem_filter.mp h).2⟩
  intro w hw
  rcases List.mem_cons.mp hw with h | h
  · rw [h]; exact key _ hz
  · exact key _ h
def zw_rm (d : Nat) : Room := { frames := d, cells := 0, slots := 0, locals := 30 * d }
/-- an instance method's package; a static one's -/
def zw_Vt (y : MethodName) (bytes : ByteArray) (maxL : Nat) (ret : Option FieldType) (n : Nat) : Prop := Cond.instanceMethod y ∈ zw_G ∧ Cond.selects y.cls y y ∈ zw_G ∧ Cond.initialized y.cls ∈ zw_G ∧ Cond.code y bytes maxL ret ∈ zw_G ∧ y.cls ≠ "java/lang/invoke/MethodHandle" ∧ y.cls ≠ "java/lang/invoke/VarHandle" ∧ (parseMethodDescriptor y.desc).map (fun d => d.parameters.length) = some n
def zw_St (y : MethodName) (bytes : ByteArray) (maxL : Nat) (ret : Option FieldType) (n : Nat) : Prop := Cond.static y ∈ zw_G ∧ Cond.initialized y.cls ∈ zw_G ∧ Cond.code y bytes maxL ret ∈ zw_G ∧ y.cls ≠ "java/lang/invoke/MethodHandle" ∧ y.cls ≠ "java/lang/invoke/VarHandle" ∧ (parseMethodDescriptor y.desc).map (fun d => d.parameters.length) = some n
def zs_B (v : Int32) : Prop := v = 0 ∨ v = 1
theorem zs_nz {v : Int32} (h : zs_B v) : narrow .boolean (.int v) = .int v := by rcases h with rfl | rfl <;> rfl
theorem zs_fz {v : Int32} (h : zs_B v) : fits .boolean (.int v) = true := by rcases h with rfl | rfl <;> rfl
theorem zs_vz {v : Int32} (h : zs_B v) : vp_nar .boolean v = v := by rcases h with rfl | rfl <;> rfl
theorem zs_lt {i : Int32} {n : Nat} (h : vp_in i n) : i.toNatClampNeg < n := Nat.not_le.mp fun q => h (Or.inr q)
section ZK
variable {p : Program} {l : Launch} {e : Env} {s : State} {m : MethodId} {args : Array Value} {below : List Frame} {meth : Method} {c : Code} {D : va_G} {tys : List (ClassId × FieldType)} {N : Nat} {ad : Nat → Nat} {wf : zs_T → Nat → va_E} {nL : Nat} {cc : ByteArray} {w0 : Cond} {own : String} {ov : Int32 → Option Value} {out : zs_O} {σ : zs_T} {pc d : Nat} {lv : List (Nat × Value)} {st rest : List Value}
theorem zk_callVi (C : zs_C p s m args meth c cc nL (w0 :: zw_G) own D vwCl tys N ad) {y : MethodName} {bytes : ByteArray} {maxL n index q0 ci : Nat} {ret : Option FieldType} {As : List Value} {out1 : zs_O} {fs : List Value} {q2 : u_T × Nat} (pk : zw_Vt y bytes maxL ret n) (hmx : maxL ≤ 11) (hlink : Cond.methodLink own index y ∈ zw_G) (hM : zs_M l D vwCl tys N ad wf y (Cond.code y bytes maxL ret :: zw_G) (zw_rm d) (.ref (ad q0) :: As) zs_vi σ out1) (he : q0 < N ∧ wf σ q0 = .inr (ci, fs)) (hc : vwCl[ci]? = some (y.cls, q2)) (hn : As.length = n) {st0 : List Value} (hst : st0 = As.reverse ++ .ref (ad q0) :: rest) (hW : (rest.map fun v => v.category).sum ≤ 8) (hdg : decode cc pc = .ok (.invokevirtual index, 3))
    (kk : zs_Z p l e (zw_rm (d + 1)) s m args below meth c D vwCl N ad wf nL ov out out1.1 (pc + 3) lv (.int out1.2 :: rest)) : zs_Z p l e (zw_rm (d + 1)) s m args below meth c D vwCl N ad wf nL ov out σ pc lv (st0) := by
  obtain ⟨p1, p2, p3, p4, p5⟩ := pk
  have hts := C.1.2.2.2.2
  exact zs_callVi (q1 := (y.cls, q2)) C hM ⟨callB_of n hts (zw_good p4) rfl rfl rfl (hts _ (zw_in p3)) (hts _ (zw_in hlink)) p5 ⟨Nat.le_refl _, by show 8 + (maxL + 11) + 30 * d ≤ 30 * (d + 1); omega⟩, hts _ (zw_in p1), hts _ (zw_in p2)⟩ he.1 he.2 hc hn hst hW hdg kk
theorem zk_callSi (C : zs_C p s m args meth c cc nL (w0 :: zw_G) own D vwCl tys N ad) {y : MethodName} {bytes : ByteArray} {maxL n index : Nat} {ret : Option FieldType} {As : List Value} {out1 : zs_O} (pk : zw_St y bytes maxL ret n) (hmx : maxL ≤ 11) (hlink : Cond.methodLink own index y ∈ zw_G) (hM : zs_M l D vwCl tys N ad wf y (Cond.code y bytes maxL ret :: zw_G) (zw_rm d) As zs_vi σ out1) (hn : As.length = n) {st0 : List Value} (hst : st0 = As.reverse ++ rest) (hW : (rest.map fun v => v.category).sum ≤ 8) (hdg : decode cc pc = .ok (.invokestatic index, 3))
    (kk : zs_Z p l e (zw_rm (d + 1)) s m args below meth c D vwCl N ad wf nL ov out out1.1 (pc + 3) lv (.int out1.2 :: rest)) : zs_Z p l e (zw_rm (d + 1)) s m args below meth c D vwCl N ad wf nL ov out σ pc lv (st0) := by
  obtain ⟨p1, p3, p4, p5⟩ := pk
  have hts := C.1.2.2.2.2
  exact zs_callSi C hM ⟨callB_of n hts (zw_good p4) rfl rfl rfl (hts _ (zw_in p3)) (hts _ (zw_in hlink)) p5 ⟨Nat.le_refl _, by show 8 + (maxL + 11) + 30 * d ≤ 30 * (d + 1); omega⟩, hts _ (zw_in p1)⟩ hn hst hW hdg kk
theorem zk_callVv (C : zs_C p s m args meth c cc nL (w0 :: zw_G) own D vwCl tys N ad) {y : MethodName} {bytes : ByteArray} {maxL n index q0 ci : Nat} {ret : Option FieldType} {As : List Value} {out1 : zs_O} {fs : List Value} {q2 : u_T × Nat} (pk : zw_Vt y bytes maxL ret n) (hmx : maxL ≤ 11) (hlink : Cond.methodLink own index y ∈ zw_G) (hM : zs_M l D vwCl tys N ad wf y (Cond.code y bytes maxL ret :: zw_G) (zw_rm d) (.ref (ad q0) :: As) zs_vv σ out1) (he : q0 < N ∧ wf σ q0 = .inr (ci, fs)) (hc : vwCl[ci]? = some (y.cls, q2)) (hn : As.length = n) {st0 : List Value} (hst : st0 = As.reverse ++ .ref (ad q0) :: rest) (hW : (rest.map fun v => v.category).sum ≤ 8) (hdg : decode cc pc = .ok (.invokevirtual index, 3))
    (kk : zs_Z p l e (zw_rm (d + 1)) s m args below meth c D vwCl N ad wf nL ov out out1.1 (pc + 3) lv (rest)) : zs_Z p l e (zw_rm (d + 1)) s m args below meth c D vwCl N ad wf nL ov out σ pc lv (st0) := by
  obtain ⟨p1, p2, p3, p4, p5⟩ := pk
  have hts := C.1.2.2.2.2
  exact zs_callVv (q1 := (y.cls, q2)) C hM ⟨callB_of n hts (zw_good p4) rfl rfl rfl (hts _ (zw_in p3)) (hts _ (zw_in hlink)) p5 ⟨Nat.le_refl _, by show 8 + (maxL + 11) + 30 * d ≤ 30 * (d + 1); omega⟩, hts _ (zw_in p1), hts _ (zw_in p2)⟩ he.1 he.2 hc hn hst hW hdg kk
theorem zk_callSv (C : zs_C p s m args meth c cc nL (w0 :: zw_G) own D vwCl tys N ad) {y : MethodName} {bytes : ByteArray} {maxL n index : Nat} {ret : Option FieldType} {As : List Value} {out1 : zs_O} (pk : zw_St y bytes maxL ret n) (hmx : maxL ≤ 11) (hlink : Cond.methodLink own index y ∈ zw_G) (hM : zs_M l D vwCl tys N ad wf y (Cond.code y bytes maxL ret :: zw_G) (zw_rm d) As zs_vv σ out1) (hn : As.length = n) {st0 : List Value} (hst : st0 = As.reverse ++ rest) (hW : (rest.map fun v => v.category).sum ≤ 8) (hdg : decode cc pc = .ok (.invokestatic index, 3))
    (kk : zs_Z p l e (zw_rm (d + 1)) s m args below meth c D vwCl N ad wf nL ov out out1.1 (pc + 3) lv (rest)) : zs_Z p l e (zw_rm (d + 1)) s m args below meth c D vwCl N ad wf nL ov out σ pc lv (st0) := by
  obtain ⟨p1, p3, p4, p5⟩ := pk
  have hts := C.1.2.2.2.2
  exact zs_callSv C hM ⟨callB_of n hts (zw_good p4) rfl rfl rfl (hts _ (zw_in p3)) (hts _ (zw_in hlink)) p5 ⟨Nat.le_refl _, by show 8 + (maxL + 11) + 30 * d ≤ 30 * (d + 1); omega⟩, hts _ (zw_in p1)⟩ hn hst hW hdg kk
end ZK
theorem zw_fX0 : ∀ w ∈ u_ws RX0 TX0 8, w ∈ zw_G := zw_sub [82, 84, 86, 88, 90, 92, 94, 96] (by decide +kernel) (by decide +kernel)
theorem zw_fX1 : ∀ w ∈ u_ws RX1 TX1 2, w ∈ zw_G := zw_sub [114, 116] (by decide +kernel) (by decide +kernel)
theorem zw_fX2 : ∀ w ∈ u_ws RX2 TX2 19, w ∈ zw_G := zw_sub [157, 159, 161, 163, 165, 167, 169, 171, 173, 175, 177, 179, 181, 183, 185, 187, 189, 191, 193] (by decide +kernel) (by decide +kernel)
theorem zw_fX3 : ∀ w ∈ u_ws RX3 TX3 6, w ∈ zw_G := zw_sub [216, 218, 220, 222, 224, 226] (by decide +kernel) (by decide +kernel)
theorem zw_fX4 : ∀ w ∈ u_ws RX4 TX4 34, w ∈ zw_G := zw_sub [550, 552, 554, 556, 558, 560, 562, 564, 566, 568, 570, 572, 574, 576, 578, 580, 582, 584, 586, 588, 590, 592, 594, 596, 598, 600, 602, 604, 606, 608, 610, 612, 614, 616] (by decide +kernel) (by decide +kernel)
end
section
def zc_len (t : Nat) : Nat := if t < 4 then 4 else 64
abbrev tysC (cI cN cW : ClassId) : List (ClassId × FieldType) := [(cI, .int), (cN, .object RX0), (cW, .object RX2)]
/-- the cells of a SplitStore, told by a pure state -/
def wC (cI cN cW : ClassId) (ad : Nat → Nat) (σ : zs_T) (i : Nat) : va_E :=
  if i = 0 then .inr (3, [.ref (ad 1), .ref (ad 2), .ref (ad 3), .int (σ 32 0), .int (σ 33 0), .int (σ 34 0)])
  else if i = 1 then .inl (cN, 64, .inr (.inr (.inr (.inr (fun j => some (ad (4 + j)))))))
  else if i = 2 then .inl (cW, 4, .inr (.inr (.inr (.inr (fun j => some (ad (68 + j)))))))
  else if i = 3 then .inl (cI, 16, .inl (σ 31))
  else if i < 68 then .inr (0, [.int (σ 0 (i - 4)), .int (σ 1 (i - 4)), .int (σ 2 (i - 4)), .int (σ 3 (i - 4)), .int (σ 4 (i - 4)), .int (σ 5 (i - 4)), .int (σ 6 (i - 4)), .int (σ 7 (i - 4))])
  else if i < 72 then .inr (2, [.int (σ 10 (i - 68)), .int (σ 11 (i - 68)), .int (σ 12 (i - 68)), .int (σ 13 (i - 68)), .int (σ 14 (i - 68)), .int (σ 15 (i - 68)), .int (σ 16 (i - 68)), .ref (ad (72 + (i - 68))), .int (σ 17 (i - 68)), .int (σ 18 (i - 68)), .int (σ 19 (i - 68)), .int (σ 20 (i - 68)), .int (σ 21 (i - 68)), .int (σ 22 (i - 68)), .int (σ 23 (i - 68)), .int (σ 24 (i - 68)), .int (σ 25 (i - 68)), .int (σ 26 (i - 68)), .ref (ad (72 + (4 + (i - 68))))])
  else if i < 80 then .inr (1, [.ref (ad (80 + (i - 72))), .int (σ 30 (i - 72))])
  else .inl (cI, zc_len (i - 80), .inl (σ (40 + (i - 80))))
section ZC
variable {cI cN cW : ClassId} {ad : Nat → Nat} {σ : zs_T} {k : Nat}
theorem zc_S : wC cI cN cW ad σ 0 = .inr (3, [.ref (ad 1), .ref (ad 2), .ref (ad 3), .int (σ 32 0), .int (σ 33 0), .int (σ 34 0)]) := rfl
theorem zc_NODES : wC cI cN cW ad σ 1 = .inl (cN, 64, .inr (.inr (.inr (.inr (fun j => some (ad (4 + j))))))) := rfl
theorem zc_WORKERS : wC cI cN cW ad σ 2 = .inl (cW, 4, .inr (.inr (.inr (.inr (fun j => some (ad (68 + j))))))) := rfl
theorem zc_BK : wC cI cN cW ad σ 3 = .inl (cI, 16, .inl (σ 31)) := rfl
theorem zc_Node (h : k < 64) : wC cI cN cW ad σ (4 + k) = .inr (0, [.int (σ 0 k), .int (σ 1 k), .int (σ 2 k), .int (σ 3 k), .int (σ 4 k), .int (σ 5 k), .int (σ 6 k), .int (σ 7 k)]) := by
  have e : 4 + k - 4 = k := by omega
  unfold wC
  rw [if_neg (by omega), if_neg (by omega), if_neg (by omega), if_neg (by omega), if_pos (by omega), e]
theorem zc_Worker (h : k < 4) : wC cI cN cW ad σ (68 + k) = .inr (2, [.int (σ 10 k), .int (σ 11 k), .int (σ 12 k), .int (σ 13 k), .int (σ 14 k), .int (σ 15 k), .int (σ 16 k), .ref (ad (72 + k)), .int (σ 17 k), .int (σ 18 k), .int (σ 19 k), .int (σ 20 k), .int (σ 21 k), .int (σ 22 k), .int (σ 23 k), .int (σ 24 k), .int (σ 25 k), .int (σ 26 k), .ref (ad (72 + (4 + k)))]) := by
  have e : 68 + k - 68 = k := by omega
  unfold wC
  rw [if_neg (by omega), if_neg (by omega), if_neg (by omega), if_neg (by omega), if_neg (by omega), if_pos (by omega), e]
theorem zc_Num (h : k < 8) : wC cI cN cW ad σ (72 + k) = .inr (1, [.ref (ad (80 + k)), .int (σ 30 k)]) := by
  have e : 72 + k - 72 = k := by omega
  unfold wC
  rw [if_neg (by omega), if_neg (by omega), if_neg (by omega), if_neg (by omega), if_neg (by omega), if_neg (by omega), if_pos (by omega), e]
theorem zc_Items (h : k < 8) : wC cI cN cW ad σ (80 + k) = .inl (cI, zc_len k, .inl (σ (40 + k))) := by
  have e : 80 + k - 80 = k := by omega
  unfold wC
  rw [if_neg (by omega), if_neg (by omega), if_neg (by omega), if_neg (by omega), if_neg (by omega), if_neg (by omega), if_neg (by omega), e]
theorem zc_8a {p : Nat} (h : p < 4) : p < 8 := by omega
theorem zc_8b {p : Nat} (h : p < 4) : 4 + p < 8 := by omega
theorem zc_recvS : 0 < 88 ∧ wC cI cN cW ad σ 0 = .inr (3, [.ref (ad 1), .ref (ad 2), .ref (ad 3), .int (σ 32 0), .int (σ 33 0), .int (σ 34 0)]) := ⟨by decide, rfl⟩
theorem zc_recvNode (h : k < 64) : 4 + k < 88 ∧ wC cI cN cW ad σ (4 + k) = .inr (0, [.int (σ 0 k), .int (σ 1 k), .int (σ 2 k), .int (σ 3 k), .int (σ 4 k), .int (σ 5 k), .int (σ 6 k), .int (σ 7 k)]) := ⟨by omega, zc_Node h⟩
theorem zc_recvWorker (h : k < 4) : 68 + k < 88 ∧ wC cI cN cW ad σ (68 + k) = .inr (2, [.int (σ 10 k), .int (σ 11 k), .int (σ 12 k), .int (σ 13 k), .int (σ 14 k), .int (σ 15 k), .int (σ 16 k), .ref (ad (72 + k)), .int (σ 17 k), .int (σ 18 k), .int (σ 19 k), .int (σ 20 k), .int (σ 21 k), .int (σ 22 k), .int (σ 23 k), .int (σ 24 k), .int (σ 25 k), .int (σ 26 k), .ref (ad (72 + (4 + k)))]) := ⟨by omega, zc_Worker h⟩
theorem zc_recvNum (h : k < 8) : 72 + k < 88 ∧ wC cI cN cW ad σ (72 + k) = .inr (1, [.ref (ad (80 + k)), .int (σ 30 k)]) := ⟨by omega, zc_Num h⟩
theorem zs_uc {σ : zs_T} {c k a : Nat} {v : Int32} (h : a ≠ c) : zs_u σ c k v a = σ a := by funext b; simp [zs_u, h]
theorem zs_uk {σ : zs_T} {c k a b : Nat} {v : Int32} (h : b ≠ k) : zs_u σ c k v a b = σ a b := by simp [zs_u, h]
theorem zs_us {σ : zs_T} {c k : Nat} {v : Int32} : zs_u σ c k v c k = v := by simp [zs_u]
theorem zc_off_Node {c : Nat} (hc : c < 8) (v : Int32) : ∀ i, i < 88 → i ≠ 4 + k → wC cI cN cW ad (zs_u σ c k v) i = wC cI cN cW ad σ i := by
  intro i hi hne
  have e : ∀ a, 8 ≤ a → zs_u σ c k v a = σ a := fun a h => zs_uc (by omega)
  unfold wC
  simp only [e 10 (by omega), e 11 (by omega), e 12 (by omega), e 13 (by omega), e 14 (by omega), e 15 (by omega), e 16 (by omega), e 17 (by omega), e 18 (by omega), e 19 (by omega), e 20 (by omega), e 21 (by omega), e 22 (by omega), e 23 (by omega), e 24 (by omega), e 25 (by omega), e 26 (by omega), e 30 (by omega), e 31 (by omega), e 32 (by omega), e 33 (by omega), e 34 (by omega), e (40 + (i - 80)) (by omega)]
  by_cases h4 : i < 4
  · rcases (show i = 0 ∨ i = 1 ∨ i = 2 ∨ i = 3 by omega) with rfl | rfl | rfl | rfl <;> rfl
  · by_cases h68 : i < 68
    · have e2 : ∀ a, zs_u σ c k v a (i - 4) = σ a (i - 4) := fun a => zs_uk (by omega)
      simp only [e2]
    · simp only [if_neg h68]
theorem zc_off_Worker {c : Nat} (hc : 10 ≤ c ∧ c < 30) (v : Int32) : ∀ i, i < 88 → i ≠ 68 + k → wC cI cN cW ad (zs_u σ c k v) i = wC cI cN cW ad σ i := by
  intro i hi hne
  have e : ∀ a, (a < 10 ∨ 30 ≤ a) → zs_u σ c k v a = σ a := fun a h => zs_uc (by omega)
  unfold wC
  simp only [e 0 (by omega), e 1 (by omega), e 2 (by omega), e 3 (by omega), e 4 (by omega), e 5 (by omega), e 6 (by omega), e 7 (by omega), e 30 (by omega), e 31 (by omega), e 32 (by omega), e 33 (by omega), e 34 (by omega), e (40 + (i - 80)) (by omega)]
  by_cases h4 : i < 4
  · rcases (show i = 0 ∨ i = 1 ∨ i = 2 ∨ i = 3 by omega) with rfl | rfl | rfl | rfl <;> rfl
  · by_cases h68 : i < 68
    · simp only [if_pos h68]
    · by_cases h72 : i < 72
      · have e2 : ∀ a, zs_u σ c k v a (i - 68) = σ a (i - 68) := fun a => zs_uk (by omega)
        simp only [e2]
      · simp only [if_neg h68, if_neg h72]
theorem zc_off_Num {c : Nat} (hc : c = 30) (v : Int32) : ∀ i, i < 88 → i ≠ 72 + k → wC cI cN cW ad (zs_u σ c k v) i = wC cI cN cW ad σ i := by
  intro i hi hne
  have e : ∀ a, a ≠ 30 → zs_u σ c k v a = σ a := fun a h => zs_uc (by omega)
  unfold wC
  simp only [e 0 (by omega), e 1 (by omega), e 2 (by omega), e 3 (by omega), e 4 (by omega), e 5 (by omega), e 6 (by omega), e 7 (by omega), e 10 (by omega), e 11 (by omega), e 12 (by omega), e 13 (by omega), e 14 (by omega), e 15 (by omega), e 16 (by omega), e 17 (by omega), e 18 (by omega), e 19 (by omega), e 20 (by omega), e 21 (by omega), e 22 (by omega), e 23 (by omega), e 24 (by omega), e 25 (by omega), e 26 (by omega), e 31 (by omega), e 32 (by omega), e 33 (by omega), e 34 (by omega), e (40 + (i - 80)) (by omega)]
  by_cases h4 : i < 4
  · rcases (show i = 0 ∨ i = 1 ∨ i = 2 ∨ i = 3 by omega) with rfl | rfl | rfl | rfl <;> rfl
  · by_cases h72 : i < 72
    · simp only [if_pos h72]
    · by_cases h80 : i < 80
      · have e2 : ∀ a, zs_u σ c k v a (i - 72) = σ a (i - 72) := fun a => zs_uk (by omega)
        simp only [e2]
      · simp only [if_neg h72, if_neg h80]
theorem zc_off_S {c : Nat} (hc : 32 ≤ c ∧ c < 35) (v : Int32) : ∀ i, i < 88 → i ≠ 0 → wC cI cN cW ad (zs_u σ c k v) i = wC cI cN cW ad σ i := by
  intro i hi hne
  have e : ∀ a, (a < 32 ∨ 35 ≤ a) → zs_u σ c k v a = σ a := fun a h => zs_uc (by omega)
  unfold wC
  simp only [e 0 (by omega), e 1 (by omega), e 2 (by omega), e 3 (by omega), e 4 (by omega), e 5 (by omega), e 6 (by omega), e 7 (by omega), e 10 (by omega), e 11 (by omega), e 12 (by omega), e 13 (by omega), e 14 (by omega), e 15 (by omega), e 16 (by omega), e 17 (by omega), e 18 (by omega), e 19 (by omega), e 20 (by omega), e 21 (by omega), e 22 (by omega), e 23 (by omega), e 24 (by omega), e 25 (by omega), e 26 (by omega), e 30 (by omega), e 31 (by omega), e (40 + (i - 80)) (by omega)]
  simp only [if_neg hne]
theorem zc_off_bk {c : Nat} (hc : c = 31) (v : Int32) : ∀ i, i < 88 → i ≠ 3 → wC cI cN cW ad (zs_u σ c k v) i = wC cI cN cW ad σ i := by
  intro i hi hne
  have e : ∀ a, a ≠ 31 → zs_u σ c k v a = σ a := fun a h => zs_uc (by omega)
  unfold wC
  simp only [e 0 (by omega), e 1 (by omega), e 2 (by omega), e 3 (by omega), e 4 (by omega), e 5 (by omega), e 6 (by omega), e 7 (by omega), e 10 (by omega), e 11 (by omega), e 12 (by omega), e 13 (by omega), e 14 (by omega), e 15 (by omega), e 16 (by omega), e 17 (by omega), e 18 (by omega), e 19 (by omega), e 20 (by omega), e 21 (by omega), e 22 (by omega), e 23 (by omega), e 24 (by omega), e 25 (by omega), e 26 (by omega), e 30 (by omega), e 32 (by omega), e 33 (by omega), e 34 (by omega), e (40 + (i - 80)) (by omega)]
  simp only [if_neg hne]
theorem zc_off_items {c t : Nat} (hc : c = 40 + t) (ht : t < 8) (v : Int32) : ∀ i, i < 88 → i ≠ 80 + t → wC cI cN cW ad (zs_u σ c k v) i = wC cI cN cW ad σ i := by
  intro i hi hne
  have e : ∀ a, a < 40 → zs_u σ c k v a = σ a := fun a h => zs_uc (by omega)
  have e7 : ∀ a, a ≠ 40 + t → zs_u σ c k v a = σ a := fun a h => zs_uc (by omega)
  unfold wC
  simp only [e 0 (by omega), e 1 (by omega), e 2 (by omega), e 3 (by omega), e 4 (by omega), e 5 (by omega), e 6 (by omega), e 7 (by omega), e 10 (by omega), e 11 (by omega), e 12 (by omega), e 13 (by omega), e 14 (by omega), e 15 (by omega), e 16 (by omega), e 17 (by omega), e 18 (by omega), e 19 (by omega), e 20 (by omega), e 21 (by omega), e 22 (by omega), e 23 (by omega), e 24 (by omega), e 25 (by omega), e 26 (by omega), e 30 (by omega), e 31 (by omega), e 32 (by omega), e 33 (by omega), e 34 (by omega)]
  by_cases h80 : i < 80
  · simp only [if_pos h80]
  · rw [e7 (40 + (i - 80)) (by omega)]
theorem zc_set_Node_state (h : k < 64) (v : Int32) : zs_S 88 (wC cI cN cW ad) σ (4 + k) (.inr (0, ([.int (σ 0 k), .int (σ 1 k), .int (σ 2 k), .int (σ 3 k), .int (σ 4 k), .int (σ 5 k), .int (σ 6 k), .int (σ 7 k)] : List Value).set 0 (.int v))) (zs_u σ 0 k v) := ⟨by omega, by rw [zc_Node h]; simp [zs_u], zc_off_Node (by decide) v⟩
theorem zc_set_Node_order (h : k < 64) (v : Int32) : zs_S 88 (wC cI cN cW ad) σ (4 + k) (.inr (0, ([.int (σ 0 k), .int (σ 1 k), .int (σ 2 k), .int (σ 3 k), .int (σ 4 k), .int (σ 5 k), .int (σ 6 k), .int (σ 7 k)] : List Value).set 1 (.int v))) (zs_u σ 1 k v) := ⟨by omega, by rw [zc_Node h]; simp [zs_u], zc_off_Node (by decide) v⟩
theorem zc_set_Node_next (h : k < 64) (v : Int32) : zs_S 88 (wC cI cN cW ad) σ (4 + k) (.inr (0, ([.int (σ 0 k), .int (σ 1 k), .int (σ 2 k), .int (σ 3 k), .int (σ 4 k), .int (σ 5 k), .int (σ 6 k), .int (σ 7 k)] : List Value).set 2 (.int v))) (zs_u σ 2 k v) := ⟨by omega, by rw [zc_Node h]; simp [zs_u], zc_off_Node (by decide) v⟩
theorem zc_set_Node_marked (h : k < 64) (v : Int32) : zs_S 88 (wC cI cN cW ad) σ (4 + k) (.inr (0, ([.int (σ 0 k), .int (σ 1 k), .int (σ 2 k), .int (σ 3 k), .int (σ 4 k), .int (σ 5 k), .int (σ 6 k), .int (σ 7 k)] : List Value).set 3 (.int v))) (zs_u σ 3 k v) := ⟨by omega, by rw [zc_Node h]; simp [zs_u], zc_off_Node (by decide) v⟩
theorem zc_set_Node_key (h : k < 64) (v : Int32) : zs_S 88 (wC cI cN cW ad) σ (4 + k) (.inr (0, ([.int (σ 0 k), .int (σ 1 k), .int (σ 2 k), .int (σ 3 k), .int (σ 4 k), .int (σ 5 k), .int (σ 6 k), .int (σ 7 k)] : List Value).set 4 (.int v))) (zs_u σ 4 k v) := ⟨by omega, by rw [zc_Node h]; simp [zs_u], zc_off_Node (by decide) v⟩
theorem zc_set_Node_value (h : k < 64) (v : Int32) : zs_S 88 (wC cI cN cW ad) σ (4 + k) (.inr (0, ([.int (σ 0 k), .int (σ 1 k), .int (σ 2 k), .int (σ 3 k), .int (σ 4 k), .int (σ 5 k), .int (σ 6 k), .int (σ 7 k)] : List Value).set 5 (.int v))) (zs_u σ 5 k v) := ⟨by omega, by rw [zc_Node h]; simp [zs_u], zc_off_Node (by decide) v⟩
theorem zc_set_Node_born (h : k < 64) (v : Int32) : zs_S 88 (wC cI cN cW ad) σ (4 + k) (.inr (0, ([.int (σ 0 k), .int (σ 1 k), .int (σ 2 k), .int (σ 3 k), .int (σ 4 k), .int (σ 5 k), .int (σ 6 k), .int (σ 7 k)] : List Value).set 6 (.int v))) (zs_u σ 6 k v) := ⟨by omega, by rw [zc_Node h]; simp [zs_u], zc_off_Node (by decide) v⟩
theorem zc_set_Node_died (h : k < 64) (v : Int32) : zs_S 88 (wC cI cN cW ad) σ (4 + k) (.inr (0, ([.int (σ 0 k), .int (σ 1 k), .int (σ 2 k), .int (σ 3 k), .int (σ 4 k), .int (σ 5 k), .int (σ 6 k), .int (σ 7 k)] : List Value).set 7 (.int v))) (zs_u σ 7 k v) := ⟨by omega, by rw [zc_Node h]; simp [zs_u], zc_off_Node (by decide) v⟩
theorem zc_set_Worker_place (h : k < 4) (v : Int32) : zs_S 88 (wC cI cN cW ad) σ (68 + k) (.inr (2, ([.int (σ 10 k), .int (σ 11 k), .int (σ 12 k), .int (σ 13 k), .int (σ 14 k), .int (σ 15 k), .int (σ 16 k), .ref (ad (72 + k)), .int (σ 17 k), .int (σ 18 k), .int (σ 19 k), .int (σ 20 k), .int (σ 21 k), .int (σ 22 k), .int (σ 23 k), .int (σ 24 k), .int (σ 25 k), .int (σ 26 k), .ref (ad (72 + (4 + k)))] : List Value).set 0 (.int v))) (zs_u σ 10 k v) := ⟨by omega, by rw [zc_Worker h]; simp [zs_u], zc_off_Worker (by decide) v⟩
theorem zc_set_Worker_operation (h : k < 4) (v : Int32) : zs_S 88 (wC cI cN cW ad) σ (68 + k) (.inr (2, ([.int (σ 10 k), .int (σ 11 k), .int (σ 12 k), .int (σ 13 k), .int (σ 14 k), .int (σ 15 k), .int (σ 16 k), .ref (ad (72 + k)), .int (σ 17 k), .int (σ 18 k), .int (σ 19 k), .int (σ 20 k), .int (σ 21 k), .int (σ 22 k), .int (σ 23 k), .int (σ 24 k), .int (σ 25 k), .int (σ 26 k), .ref (ad (72 + (4 + k)))] : List Value).set 1 (.int v))) (zs_u σ 11 k v) := ⟨by omega, by rw [zc_Worker h]; simp [zs_u], zc_off_Worker (by decide) v⟩
theorem zc_set_Worker_key (h : k < 4) (v : Int32) : zs_S 88 (wC cI cN cW ad) σ (68 + k) (.inr (2, ([.int (σ 10 k), .int (σ 11 k), .int (σ 12 k), .int (σ 13 k), .int (σ 14 k), .int (σ 15 k), .int (σ 16 k), .ref (ad (72 + k)), .int (σ 17 k), .int (σ 18 k), .int (σ 19 k), .int (σ 20 k), .int (σ 21 k), .int (σ 22 k), .int (σ 23 k), .int (σ 24 k), .int (σ 25 k), .int (σ 26 k), .ref (ad (72 + (4 + k)))] : List Value).set 2 (.int v))) (zs_u σ 12 k v) := ⟨by omega, by rw [zc_Worker h]; simp [zs_u], zc_off_Worker (by decide) v⟩
theorem zc_set_Worker_value (h : k < 4) (v : Int32) : zs_S 88 (wC cI cN cW ad) σ (68 + k) (.inr (2, ([.int (σ 10 k), .int (σ 11 k), .int (σ 12 k), .int (σ 13 k), .int (σ 14 k), .int (σ 15 k), .int (σ 16 k), .ref (ad (72 + k)), .int (σ 17 k), .int (σ 18 k), .int (σ 19 k), .int (σ 20 k), .int (σ 21 k), .int (σ 22 k), .int (σ 23 k), .int (σ 24 k), .int (σ 25 k), .int (σ 26 k), .ref (ad (72 + (4 + k)))] : List Value).set 3 (.int v))) (zs_u σ 13 k v) := ⟨by omega, by rw [zc_Worker h]; simp [zs_u], zc_off_Worker (by decide) v⟩
theorem zc_set_Worker_low (h : k < 4) (v : Int32) : zs_S 88 (wC cI cN cW ad) σ (68 + k) (.inr (2, ([.int (σ 10 k), .int (σ 11 k), .int (σ 12 k), .int (σ 13 k), .int (σ 14 k), .int (σ 15 k), .int (σ 16 k), .ref (ad (72 + k)), .int (σ 17 k), .int (σ 18 k), .int (σ 19 k), .int (σ 20 k), .int (σ 21 k), .int (σ 22 k), .int (σ 23 k), .int (σ 24 k), .int (σ 25 k), .int (σ 26 k), .ref (ad (72 + (4 + k)))] : List Value).set 4 (.int v))) (zs_u σ 14 k v) := ⟨by omega, by rw [zc_Worker h]; simp [zs_u], zc_off_Worker (by decide) v⟩
theorem zc_set_Worker_high (h : k < 4) (v : Int32) : zs_S 88 (wC cI cN cW ad) σ (68 + k) (.inr (2, ([.int (σ 10 k), .int (σ 11 k), .int (σ 12 k), .int (σ 13 k), .int (σ 14 k), .int (σ 15 k), .int (σ 16 k), .ref (ad (72 + k)), .int (σ 17 k), .int (σ 18 k), .int (σ 19 k), .int (σ 20 k), .int (σ 21 k), .int (σ 22 k), .int (σ 23 k), .int (σ 24 k), .int (σ 25 k), .int (σ 26 k), .ref (ad (72 + (4 + k)))] : List Value).set 5 (.int v))) (zs_u σ 15 k v) := ⟨by omega, by rw [zc_Worker h]; simp [zs_u], zc_off_Worker (by decide) v⟩
theorem zc_set_Worker_bucket (h : k < 4) (v : Int32) : zs_S 88 (wC cI cN cW ad) σ (68 + k) (.inr (2, ([.int (σ 10 k), .int (σ 11 k), .int (σ 12 k), .int (σ 13 k), .int (σ 14 k), .int (σ 15 k), .int (σ 16 k), .ref (ad (72 + k)), .int (σ 17 k), .int (σ 18 k), .int (σ 19 k), .int (σ 20 k), .int (σ 21 k), .int (σ 22 k), .int (σ 23 k), .int (σ 24 k), .int (σ 25 k), .int (σ 26 k), .ref (ad (72 + (4 + k)))] : List Value).set 6 (.int v))) (zs_u σ 16 k v) := ⟨by omega, by rw [zc_Worker h]; simp [zs_u], zc_off_Worker (by decide) v⟩
theorem zc_set_Worker_start (h : k < 4) (v : Int32) : zs_S 88 (wC cI cN cW ad) σ (68 + k) (.inr (2, ([.int (σ 10 k), .int (σ 11 k), .int (σ 12 k), .int (σ 13 k), .int (σ 14 k), .int (σ 15 k), .int (σ 16 k), .ref (ad (72 + k)), .int (σ 17 k), .int (σ 18 k), .int (σ 19 k), .int (σ 20 k), .int (σ 21 k), .int (σ 22 k), .int (σ 23 k), .int (σ 24 k), .int (σ 25 k), .int (σ 26 k), .ref (ad (72 + (4 + k)))] : List Value).set 8 (.int v))) (zs_u σ 17 k v) := ⟨by omega, by rw [zc_Worker h]; simp [zs_u], zc_off_Worker (by decide) v⟩
theorem zc_set_Worker_prev (h : k < 4) (v : Int32) : zs_S 88 (wC cI cN cW ad) σ (68 + k) (.inr (2, ([.int (σ 10 k), .int (σ 11 k), .int (σ 12 k), .int (σ 13 k), .int (σ 14 k), .int (σ 15 k), .int (σ 16 k), .ref (ad (72 + k)), .int (σ 17 k), .int (σ 18 k), .int (σ 19 k), .int (σ 20 k), .int (σ 21 k), .int (σ 22 k), .int (σ 23 k), .int (σ 24 k), .int (σ 25 k), .int (σ 26 k), .ref (ad (72 + (4 + k)))] : List Value).set 9 (.int v))) (zs_u σ 18 k v) := ⟨by omega, by rw [zc_Worker h]; simp [zs_u], zc_off_Worker (by decide) v⟩
theorem zc_set_Worker_cur (h : k < 4) (v : Int32) : zs_S 88 (wC cI cN cW ad) σ (68 + k) (.inr (2, ([.int (σ 10 k), .int (σ 11 k), .int (σ 12 k), .int (σ 13 k), .int (σ 14 k), .int (σ 15 k), .int (σ 16 k), .ref (ad (72 + k)), .int (σ 17 k), .int (σ 18 k), .int (σ 19 k), .int (σ 20 k), .int (σ 21 k), .int (σ 22 k), .int (σ 23 k), .int (σ 24 k), .int (σ 25 k), .int (σ 26 k), .ref (ad (72 + (4 + k)))] : List Value).set 10 (.int v))) (zs_u σ 19 k v) := ⟨by omega, by rw [zc_Worker h]; simp [zs_u], zc_off_Worker (by decide) v⟩
theorem zc_set_Worker_nxt (h : k < 4) (v : Int32) : zs_S 88 (wC cI cN cW ad) σ (68 + k) (.inr (2, ([.int (σ 10 k), .int (σ 11 k), .int (σ 12 k), .int (σ 13 k), .int (σ 14 k), .int (σ 15 k), .int (σ 16 k), .ref (ad (72 + k)), .int (σ 17 k), .int (σ 18 k), .int (σ 19 k), .int (σ 20 k), .int (σ 21 k), .int (σ 22 k), .int (σ 23 k), .int (σ 24 k), .int (σ 25 k), .int (σ 26 k), .ref (ad (72 + (4 + k)))] : List Value).set 11 (.int v))) (zs_u σ 20 k v) := ⟨by omega, by rw [zc_Worker h]; simp [zs_u], zc_off_Worker (by decide) v⟩
theorem zc_set_Worker_curMarked (h : k < 4) (v : Int32) : zs_S 88 (wC cI cN cW ad) σ (68 + k) (.inr (2, ([.int (σ 10 k), .int (σ 11 k), .int (σ 12 k), .int (σ 13 k), .int (σ 14 k), .int (σ 15 k), .int (σ 16 k), .ref (ad (72 + k)), .int (σ 17 k), .int (σ 18 k), .int (σ 19 k), .int (σ 20 k), .int (σ 21 k), .int (σ 22 k), .int (σ 23 k), .int (σ 24 k), .int (σ 25 k), .int (σ 26 k), .ref (ad (72 + (4 + k)))] : List Value).set 12 (.int v))) (zs_u σ 21 k v) := ⟨by omega, by rw [zc_Worker h]; simp [zs_u], zc_off_Worker (by decide) v⟩
theorem zc_set_Worker_own (h : k < 4) (v : Int32) : zs_S 88 (wC cI cN cW ad) σ (68 + k) (.inr (2, ([.int (σ 10 k), .int (σ 11 k), .int (σ 12 k), .int (σ 13 k), .int (σ 14 k), .int (σ 15 k), .int (σ 16 k), .ref (ad (72 + k)), .int (σ 17 k), .int (σ 18 k), .int (σ 19 k), .int (σ 20 k), .int (σ 21 k), .int (σ 22 k), .int (σ 23 k), .int (σ 24 k), .int (σ 25 k), .int (σ 26 k), .ref (ad (72 + (4 + k)))] : List Value).set 13 (.int v))) (zs_u σ 22 k v) := ⟨by omega, by rw [zc_Worker h]; simp [zs_u], zc_off_Worker (by decide) v⟩
theorem zc_set_Worker_bucketNode (h : k < 4) (v : Int32) : zs_S 88 (wC cI cN cW ad) σ (68 + k) (.inr (2, ([.int (σ 10 k), .int (σ 11 k), .int (σ 12 k), .int (σ 13 k), .int (σ 14 k), .int (σ 15 k), .int (σ 16 k), .ref (ad (72 + k)), .int (σ 17 k), .int (σ 18 k), .int (σ 19 k), .int (σ 20 k), .int (σ 21 k), .int (σ 22 k), .int (σ 23 k), .int (σ 24 k), .int (σ 25 k), .int (σ 26 k), .ref (ad (72 + (4 + k)))] : List Value).set 14 (.int v))) (zs_u σ 23 k v) := ⟨by omega, by rw [zc_Worker h]; simp [zs_u], zc_off_Worker (by decide) v⟩
theorem zc_set_Worker_cleans (h : k < 4) (v : Int32) : zs_S 88 (wC cI cN cW ad) σ (68 + k) (.inr (2, ([.int (σ 10 k), .int (σ 11 k), .int (σ 12 k), .int (σ 13 k), .int (σ 14 k), .int (σ 15 k), .int (σ 16 k), .ref (ad (72 + k)), .int (σ 17 k), .int (σ 18 k), .int (σ 19 k), .int (σ 20 k), .int (σ 21 k), .int (σ 22 k), .int (σ 23 k), .int (σ 24 k), .int (σ 25 k), .int (σ 26 k), .ref (ad (72 + (4 + k)))] : List Value).set 15 (.int v))) (zs_u σ 24 k v) := ⟨by omega, by rw [zc_Worker h]; simp [zs_u], zc_off_Worker (by decide) v⟩
theorem zc_set_Worker_answer (h : k < 4) (v : Int32) : zs_S 88 (wC cI cN cW ad) σ (68 + k) (.inr (2, ([.int (σ 10 k), .int (σ 11 k), .int (σ 12 k), .int (σ 13 k), .int (σ 14 k), .int (σ 15 k), .int (σ 16 k), .ref (ad (72 + k)), .int (σ 17 k), .int (σ 18 k), .int (σ 19 k), .int (σ 20 k), .int (σ 21 k), .int (σ 22 k), .int (σ 23 k), .int (σ 24 k), .int (σ 25 k), .int (σ 26 k), .ref (ad (72 + (4 + k)))] : List Value).set 16 (.int v))) (zs_u σ 25 k v) := ⟨by omega, by rw [zc_Worker h]; simp [zs_u], zc_off_Worker (by decide) v⟩
theorem zc_set_Worker_latest (h : k < 4) (v : Int32) : zs_S 88 (wC cI cN cW ad) σ (68 + k) (.inr (2, ([.int (σ 10 k), .int (σ 11 k), .int (σ 12 k), .int (σ 13 k), .int (σ 14 k), .int (σ 15 k), .int (σ 16 k), .ref (ad (72 + k)), .int (σ 17 k), .int (σ 18 k), .int (σ 19 k), .int (σ 20 k), .int (σ 21 k), .int (σ 22 k), .int (σ 23 k), .int (σ 24 k), .int (σ 25 k), .int (σ 26 k), .ref (ad (72 + (4 + k)))] : List Value).set 17 (.int v))) (zs_u σ 26 k v) := ⟨by omega, by rw [zc_Worker h]; simp [zs_u], zc_off_Worker (by decide) v⟩
theorem zc_set_Num_length (h : k < 8) (v : Int32) : zs_S 88 (wC cI cN cW ad) σ (72 + k) (.inr (1, ([.ref (ad (80 + k)), .int (σ 30 k)] : List Value).set 1 (.int v))) (zs_u σ 30 k v) := ⟨by omega, by rw [zc_Num h]; simp [zs_u], zc_off_Num rfl v⟩
theorem zc_set_S_size (v : Int32) : zs_S 88 (wC cI cN cW ad) σ 0 (.inr (3, ([.ref (ad 1), .ref (ad 2), .ref (ad 3), .int (σ 32 0), .int (σ 33 0), .int (σ 34 0)] : List Value).set 3 (.int v))) (zs_u σ 32 0 v) := ⟨by decide, by rw [zc_S]; simp [zs_u], zc_off_S (by decide) v⟩
theorem zc_set_S_count (v : Int32) : zs_S 88 (wC cI cN cW ad) σ 0 (.inr (3, ([.ref (ad 1), .ref (ad 2), .ref (ad 3), .int (σ 32 0), .int (σ 33 0), .int (σ 34 0)] : List Value).set 4 (.int v))) (zs_u σ 33 0 v) := ⟨by decide, by rw [zc_S]; simp [zs_u], zc_off_S (by decide) v⟩
theorem zc_set_S_era (v : Int32) : zs_S 88 (wC cI cN cW ad) σ 0 (.inr (3, ([.ref (ad 1), .ref (ad 2), .ref (ad 3), .int (σ 32 0), .int (σ 33 0), .int (σ 34 0)] : List Value).set 5 (.int v))) (zs_u σ 34 0 v) := ⟨by decide, by rw [zc_S]; simp [zs_u], zc_off_S (by decide) v⟩
theorem zc_set_bk (j : Nat) (v : Int32) : zs_S 88 (wC cI cN cW ad) σ 3 (.inl (cI, 16, .inl (upd (σ 31) j v))) (zs_u σ 31 j v) := ⟨by decide, by rw [zc_BK]; congr 4; funext b; simp [zs_u, upd], zc_off_bk rfl v⟩
theorem zc_set_items (h : k < 8) (j : Nat) (v : Int32) : zs_S 88 (wC cI cN cW ad) σ (80 + k) (.inl (cI, zc_len k, .inl (upd (σ (40 + k)) j v))) (zs_u σ (40 + k) j v) := ⟨by omega, by rw [zc_Items h]; congr 4; funext b; simp [zs_u, upd], zc_off_items rfl h v⟩
end ZC
section ZCR
variable {p : Program} {l : Launch} {e : Env} {R : Room} {s : State} {m : MethodId} {args : Array Value} {below : List Frame} {meth : Method} {c : Code} {D : va_G} {cI cN cW : ClassId} {ad : Nat → Nat} {nL : Nat} {cc : ByteArray} {w0 : Cond} {own : String} {ov : Int32 → Option Value} {out : zs_O} {σ : zs_T} {pc index k : Nat} {lv : List (Nat × Value)} {st : List Value}
theorem gC_S_nodes (C : zs_C p s m args meth c cc nL (w0 :: zw_G) own D vwCl (tysC cI cN cW) 88 ad) (hlink : Cond.fieldLink own index (TX3 0).1 (TX3 0).2.1 (TX3 0).2.2.1 ∈ zw_G) (hdg : decode cc pc = .ok (.getfield index, 3))
    (kk : zs_Z p l e R s m args below meth c D vwCl 88 ad (wC cI cN cW ad) nL ov out σ (pc + 3) lv (.ref (ad 1) :: st)) : zs_Z p l e R s m args below meth c D vwCl 88 ad (wC cI cN cW ad) nL ov out σ pc lv (.ref (ad 0) :: st) :=
  zs_get C (fun w h => zw_in (zw_fX3 w h)) 0 (by omega) zc_S rfl 0 (by decide) (zw_in hlink) rfl hdg kk
theorem gC_S_workers (C : zs_C p s m args meth c cc nL (w0 :: zw_G) own D vwCl (tysC cI cN cW) 88 ad) (hlink : Cond.fieldLink own index (TX3 1).1 (TX3 1).2.1 (TX3 1).2.2.1 ∈ zw_G) (hdg : decode cc pc = .ok (.getfield index, 3))
    (kk : zs_Z p l e R s m args below meth c D vwCl 88 ad (wC cI cN cW ad) nL ov out σ (pc + 3) lv (.ref (ad 2) :: st)) : zs_Z p l e R s m args below meth c D vwCl 88 ad (wC cI cN cW ad) nL ov out σ pc lv (.ref (ad 0) :: st) :=
  zs_get C (fun w h => zw_in (zw_fX3 w h)) 0 (by omega) zc_S rfl 1 (by decide) (zw_in hlink) rfl hdg kk
theorem gC_S_bucketNodes (C : zs_C p s m args meth c cc nL (w0 :: zw_G) own D vwCl (tysC cI cN cW) 88 ad) (hlink : Cond.fieldLink own index (TX3 2).1 (TX3 2).2.1 (TX3 2).2.2.1 ∈ zw_G) (hdg : decode cc pc = .ok (.getfield index, 3))
    (kk : zs_Z p l e R s m args below meth c D vwCl 88 ad (wC cI cN cW ad) nL ov out σ (pc + 3) lv (.ref (ad 3) :: st)) : zs_Z p l e R s m args below meth c D vwCl 88 ad (wC cI cN cW ad) nL ov out σ pc lv (.ref (ad 0) :: st) :=
  zs_get C (fun w h => zw_in (zw_fX3 w h)) 0 (by omega) zc_S rfl 2 (by decide) (zw_in hlink) rfl hdg kk
theorem gC_S_size (C : zs_C p s m args meth c cc nL (w0 :: zw_G) own D vwCl (tysC cI cN cW) 88 ad) (hlink : Cond.fieldLink own index (TX3 3).1 (TX3 3).2.1 (TX3 3).2.2.1 ∈ zw_G) (hdg : decode cc pc = .ok (.getfield index, 3))
    (kk : zs_Z p l e R s m args below meth c D vwCl 88 ad (wC cI cN cW ad) nL ov out σ (pc + 3) lv (.int (σ 32 0) :: st)) : zs_Z p l e R s m args below meth c D vwCl 88 ad (wC cI cN cW ad) nL ov out σ pc lv (.ref (ad 0) :: st) :=
  zs_get C (fun w h => zw_in (zw_fX3 w h)) 0 (by omega) zc_S rfl 3 (by decide) (zw_in hlink) rfl hdg kk
theorem pC_S_size (C : zs_C p s m args meth c cc nL (w0 :: zw_G) own D vwCl (tysC cI cN cW) 88 ad) {v : Int32} (hlink : Cond.fieldLink own index (TX3 3).1 (TX3 3).2.1 (TX3 3).2.2.1 ∈ zw_G) (hdg : decode cc pc = .ok (.putfield index, 3))
    (kk : zs_Z p l e R s m args below meth c D vwCl 88 ad (wC cI cN cW ad) nL ov out (zs_u σ 32 0 v) (pc + 3) lv (st)) : zs_Z p l e R s m args below meth c D vwCl 88 ad (wC cI cN cW ad) nL ov out σ pc lv (.int v :: .ref (ad 0) :: st) :=
  zs_put (ty := .int) C (fun w h => zw_in (zw_fX3 w h)) tyX3 tyX3_ok nmX3 0 zc_S rfl 3 (by decide) (zw_in hlink) rfl (by decide +kernel) rfl rfl (Nat.le_of_ble_eq_true rfl) (zc_set_S_size v) hdg kk
theorem gC_S_count (C : zs_C p s m args meth c cc nL (w0 :: zw_G) own D vwCl (tysC cI cN cW) 88 ad) (hlink : Cond.fieldLink own index (TX3 4).1 (TX3 4).2.1 (TX3 4).2.2.1 ∈ zw_G) (hdg : decode cc pc = .ok (.getfield index, 3))
    (kk : zs_Z p l e R s m args below meth c D vwCl 88 ad (wC cI cN cW ad) nL ov out σ (pc + 3) lv (.int (σ 33 0) :: st)) : zs_Z p l e R s m args below meth c D vwCl 88 ad (wC cI cN cW ad) nL ov out σ pc lv (.ref (ad 0) :: st) :=
  zs_get C (fun w h => zw_in (zw_fX3 w h)) 0 (by omega) zc_S rfl 4 (by decide) (zw_in hlink) rfl hdg kk
theorem pC_S_count (C : zs_C p s m args meth c cc nL (w0 :: zw_G) own D vwCl (tysC cI cN cW) 88 ad) {v : Int32} (hlink : Cond.fieldLink own index (TX3 4).1 (TX3 4).2.1 (TX3 4).2.2.1 ∈ zw_G) (hdg : decode cc pc = .ok (.putfield index, 3))
    (kk : zs_Z p l e R s m args below meth c D vwCl 88 ad (wC cI cN cW ad) nL ov out (zs_u σ 33 0 v) (pc + 3) lv (st)) : zs_Z p l e R s m args below meth c D vwCl 88 ad (wC cI cN cW ad) nL ov out σ pc lv (.int v :: .ref (ad 0) :: st) :=
  zs_put (ty := .int) C (fun w h => zw_in (zw_fX3 w h)) tyX3 tyX3_ok nmX3 0 zc_S rfl 4 (by decide) (zw_in hlink) rfl (by decide +kernel) rfl rfl (Nat.le_of_ble_eq_true rfl) (zc_set_S_count v) hdg kk
theorem gC_S_era (C : zs_C p s m args meth c cc nL (w0 :: zw_G) own D vwCl (tysC cI cN cW) 88 ad) (hlink : Cond.fieldLink own index (TX3 5).1 (TX3 5).2.1 (TX3 5).2.2.1 ∈ zw_G) (hdg : decode cc pc = .ok (.getfield index, 3))
    (kk : zs_Z p l e R s m args below meth c D vwCl 88 ad (wC cI cN cW ad) nL ov out σ (pc + 3) lv (.int (σ 34 0) :: st)) : zs_Z p l e R s m args below meth c D vwCl 88 ad (wC cI cN cW ad) nL ov out σ pc lv (.ref (ad 0) :: st) :=
  zs_get C (fun w h => zw_in (zw_fX3 w h)) 0 (by omega) zc_S rfl 5 (by decide) (zw_in hlink) rfl hdg kk
theorem pC_S_era (C : zs_C p s m args meth c cc nL (w0 :: zw_G) own D vwCl (tysC cI cN cW) 88 ad) {v : Int32} (hlink : Cond.fieldLink own index (TX3 5).1 (TX3 5).2.1 (TX3 5).2.2.1 ∈ zw_G) (hdg : decode cc pc = .ok (.putfield index, 3))
    (kk : zs_Z p l e R s m args below meth c D vwCl 88 ad (wC cI cN cW ad) nL ov out (zs_u σ 34 0 v) (pc + 3) lv (st)) : zs_Z p l e R s m args below meth c D vwCl 88 ad (wC cI cN cW ad) nL ov out σ pc lv (.int v :: .ref (ad 0) :: st) :=
  zs_put (ty := .int) C (fun w h => zw_in (zw_fX3 w h)) tyX3 tyX3_ok nmX3 0 zc_S rfl 5 (by decide) (zw_in hlink) rfl (by decide +kernel) rfl rfl (Nat.le_of_ble_eq_true rfl) (zc_set_S_era v) hdg kk
theorem gC_Node_state (C : zs_C p s m args meth c cc nL (w0 :: zw_G) own D vwCl (tysC cI cN cW) 88 ad) (hk : k < 64) (hlink : Cond.fieldLink own index (TX0 0).1 (TX0 0).2.1 (TX0 0).2.2.1 ∈ zw_G) (hdg : decode cc pc = .ok (.getfield index, 3))
    (kk : zs_Z p l e R s m args below meth c D vwCl 88 ad (wC cI cN cW ad) nL ov out σ (pc + 3) lv (.int (σ 0 k) :: st)) : zs_Z p l e R s m args below meth c D vwCl 88 ad (wC cI cN cW ad) nL ov out σ pc lv (.ref (ad (4 + k)) :: st) :=
  zs_get C (fun w h => zw_in (zw_fX0 w h)) (4 + k) (by omega) (zc_Node hk) rfl 0 (by decide) (zw_in hlink) rfl hdg kk
theorem pC_Node_state (C : zs_C p s m args meth c cc nL (w0 :: zw_G) own D vwCl (tysC cI cN cW) 88 ad) {v : Int32} (hk : k < 64) (hlink : Cond.fieldLink own index (TX0 0).1 (TX0 0).2.1 (TX0 0).2.2.1 ∈ zw_G) (hdg : decode cc pc = .ok (.putfield index, 3))
    (kk : zs_Z p l e R s m args below meth c D vwCl 88 ad (wC cI cN cW ad) nL ov out (zs_u σ 0 k v) (pc + 3) lv (st)) : zs_Z p l e R s m args below meth c D vwCl 88 ad (wC cI cN cW ad) nL ov out σ pc lv (.int v :: .ref (ad (4 + k)) :: st) :=
  zs_put (ty := .int) C (fun w h => zw_in (zw_fX0 w h)) tyX0 tyX0_ok nmX0 (4 + k) (zc_Node hk) rfl 0 (by decide) (zw_in hlink) rfl (by decide +kernel) rfl rfl (Nat.le_of_ble_eq_true rfl) (zc_set_Node_state hk v) hdg kk
theorem gC_Node_order (C : zs_C p s m args meth c cc nL (w0 :: zw_G) own D vwCl (tysC cI cN cW) 88 ad) (hk : k < 64) (hlink : Cond.fieldLink own index (TX0 1).1 (TX0 1).2.1 (TX0 1).2.2.1 ∈ zw_G) (hdg : decode cc pc = .ok (.getfield index, 3))
    (kk : zs_Z p l e R s m args below meth c D vwCl 88 ad (wC cI cN cW ad) nL ov out σ (pc + 3) lv (.int (σ 1 k) :: st)) : zs_Z p l e R s m args below meth c D vwCl 88 ad (wC cI cN cW ad) nL ov out σ pc lv (.ref (ad (4 + k)) :: st) :=
  zs_get C (fun w h => zw_in (zw_fX0 w h)) (4 + k) (by omega) (zc_Node hk) rfl 1 (by decide) (zw_in hlink) rfl hdg kk
theorem pC_Node_order (C : zs_C p s m args meth c cc nL (w0 :: zw_G) own D vwCl (tysC cI cN cW) 88 ad) {v : Int32} (hk : k < 64) (hlink : Cond.fieldLink own index (TX0 1).1 (TX0 1).2.1 (TX0 1).2.2.1 ∈ zw_G) (hdg : decode cc pc = .ok (.putfield index, 3))
    (kk : zs_Z p l e R s m args below meth c D vwCl 88 ad (wC cI cN cW ad) nL ov out (zs_u σ 1 k v) (pc + 3) lv (st)) : zs_Z p l e R s m args below meth c D vwCl 88 ad (wC cI cN cW ad) nL ov out σ pc lv (.int v :: .ref (ad (4 + k)) :: st) :=
  zs_put (ty := .int) C (fun w h => zw_in (zw_fX0 w h)) tyX0 tyX0_ok nmX0 (4 + k) (zc_Node hk) rfl 1 (by decide) (zw_in hlink) rfl (by decide +kernel) rfl rfl (Nat.le_of_ble_eq_true rfl) (zc_set_Node_order hk v) hdg kk
theorem gC_Node_next (C : zs_C p s m args meth c cc nL (w0 :: zw_G) own D vwCl (tysC cI cN cW) 88 ad) (hk : k < 64) (hlink : Cond.fieldLink own index (TX0 2).1 (TX0 2).2.1 (TX0 2).2.2.1 ∈ zw_G) (hdg : decode cc pc = .ok (.getfield index, 3))
    (kk : zs_Z p l e R s m args below meth c D vwCl 88 ad (wC cI cN cW ad) nL ov out σ (pc + 3) lv (.int (σ 2 k) :: st)) : zs_Z p l e R s m args below meth c D vwCl 88 ad (wC cI cN cW ad) nL ov out σ pc lv (.ref (ad (4 + k)) :: st) :=
  zs_get C (fun w h => zw_in (zw_fX0 w h)) (4 + k) (by omega) (zc_Node hk) rfl 2 (by decide) (zw_in hlink) rfl hdg kk
theorem pC_Node_next (C : zs_C p s m args meth c cc nL (w0 :: zw_G) own D vwCl (tysC cI cN cW) 88 ad) {v : Int32} (hk : k < 64) (hlink : Cond.fieldLink own index (TX0 2).1 (TX0 2).2.1 (TX0 2).2.2.1 ∈ zw_G) (hdg : decode cc pc = .ok (.putfield index, 3))
    (kk : zs_Z p l e R s m args below meth c D vwCl 88 ad (wC cI cN cW ad) nL ov out (zs_u σ 2 k v) (pc + 3) lv (st)) : zs_Z p l e R s m args below meth c D vwCl 88 ad (wC cI cN cW ad) nL ov out σ pc lv (.int v :: .ref (ad (4 + k)) :: st) :=
  zs_put (ty := .int) C (fun w h => zw_in (zw_fX0 w h)) tyX0 tyX0_ok nmX0 (4 + k) (zc_Node hk) rfl 2 (by decide) (zw_in hlink) rfl (by decide +kernel) rfl rfl (Nat.le_of_ble_eq_true rfl) (zc_set_Node_next hk v) hdg kk
theorem gC_Node_marked (C : zs_C p s m args meth c cc nL (w0 :: zw_G) own D vwCl (tysC cI cN cW) 88 ad) (hk : k < 64) (hlink : Cond.fieldLink own index (TX0 3).1 (TX0 3).2.1 (TX0 3).2.2.1 ∈ zw_G) (hdg : decode cc pc = .ok (.getfield index, 3))
    (kk : zs_Z p l e R s m args below meth c D vwCl 88 ad (wC cI cN cW ad) nL ov out σ (pc + 3) lv (.int (σ 3 k) :: st)) : zs_Z p l e R s m args below meth c D vwCl 88 ad (wC cI cN cW ad) nL ov out σ pc lv (.ref (ad (4 + k)) :: st) :=
  zs_get C (fun w h => zw_in (zw_fX0 w h)) (4 + k) (by omega) (zc_Node hk) rfl 3 (by decide) (zw_in hlink) rfl hdg kk
theorem pC_Node_marked (C : zs_C p s m args meth c cc nL (w0 :: zw_G) own D vwCl (tysC cI cN cW) 88 ad) {v : Int32} (hk : k < 64) (hlink : Cond.fieldLink own index (TX0 3).1 (TX0 3).2.1 (TX0 3).2.2.1 ∈ zw_G) (hz : zs_B v) (hdg : decode cc pc = .ok (.putfield index, 3))
    (kk : zs_Z p l e R s m args below meth c D vwCl 88 ad (wC cI cN cW ad) nL ov out (zs_u σ 3 k v) (pc + 3) lv (st)) : zs_Z p l e R s m args below meth c D vwCl 88 ad (wC cI cN cW ad) nL ov out σ pc lv (.int v :: .ref (ad (4 + k)) :: st) :=
  zs_put (ty := .boolean) C (fun w h => zw_in (zw_fX0 w h)) tyX0 tyX0_ok nmX0 (4 + k) (zc_Node hk) rfl 3 (by decide) (zw_in hlink) rfl (by decide +kernel) (zs_nz hz) (zs_fz hz) (Nat.le_of_ble_eq_true rfl) (zc_set_Node_marked hk v) hdg kk
theorem gC_Node_key (C : zs_C p s m args meth c cc nL (w0 :: zw_G) own D vwCl (tysC cI cN cW) 88 ad) (hk : k < 64) (hlink : Cond.fieldLink own index (TX0 4).1 (TX0 4).2.1 (TX0 4).2.2.1 ∈ zw_G) (hdg : decode cc pc = .ok (.getfield index, 3))
    (kk : zs_Z p l e R s m args below meth c D vwCl 88 ad (wC cI cN cW ad) nL ov out σ (pc + 3) lv (.int (σ 4 k) :: st)) : zs_Z p l e R s m args below meth c D vwCl 88 ad (wC cI cN cW ad) nL ov out σ pc lv (.ref (ad (4 + k)) :: st) :=
  zs_get C (fun w h => zw_in (zw_fX0 w h)) (4 + k) (by omega) (zc_Node hk) rfl 4 (by decide) (zw_in hlink) rfl hdg kk
theorem pC_Node_key (C : zs_C p s m args meth c cc nL (w0 :: zw_G) own D vwCl (tysC cI cN cW) 88 ad) {v : Int32} (hk : k < 64) (hlink : Cond.fieldLink own index (TX0 4).1 (TX0 4).2.1 (TX0 4).2.2.1 ∈ zw_G) (hdg : decode cc pc = .ok (.putfield index, 3))
    (kk : zs_Z p l e R s m args below meth c D vwCl 88 ad (wC cI cN cW ad) nL ov out (zs_u σ 4 k v) (pc + 3) lv (st)) : zs_Z p l e R s m args below meth c D vwCl 88 ad (wC cI cN cW ad) nL ov out σ pc lv (.int v :: .ref (ad (4 + k)) :: st) :=
  zs_put (ty := .int) C (fun w h => zw_in (zw_fX0 w h)) tyX0 tyX0_ok nmX0 (4 + k) (zc_Node hk) rfl 4 (by decide) (zw_in hlink) rfl (by decide +kernel) rfl rfl (Nat.le_of_ble_eq_true rfl) (zc_set_Node_key hk v) hdg kk
theorem gC_Node_value (C : zs_C p s m args meth c cc nL (w0 :: zw_G) own D vwCl (tysC cI cN cW) 88 ad) (hk : k < 64) (hlink : Cond.fieldLink own index (TX0 5).1 (TX0 5).2.1 (TX0 5).2.2.1 ∈ zw_G) (hdg : decode cc pc = .ok (.getfield index, 3))
    (kk : zs_Z p l e R s m args below meth c D vwCl 88 ad (wC cI cN cW ad) nL ov out σ (pc + 3) lv (.int (σ 5 k) :: st)) : zs_Z p l e R s m args below meth c D vwCl 88 ad (wC cI cN cW ad) nL ov out σ pc lv (.ref (ad (4 + k)) :: st) :=
  zs_get C (fun w h => zw_in (zw_fX0 w h)) (4 + k) (by omega) (zc_Node hk) rfl 5 (by decide) (zw_in hlink) rfl hdg kk
theorem pC_Node_value (C : zs_C p s m args meth c cc nL (w0 :: zw_G) own D vwCl (tysC cI cN cW) 88 ad) {v : Int32} (hk : k < 64) (hlink : Cond.fieldLink own index (TX0 5).1 (TX0 5).2.1 (TX0 5).2.2.1 ∈ zw_G) (hdg : decode cc pc = .ok (.putfield index, 3))
    (kk : zs_Z p l e R s m args below meth c D vwCl 88 ad (wC cI cN cW ad) nL ov out (zs_u σ 5 k v) (pc + 3) lv (st)) : zs_Z p l e R s m args below meth c D vwCl 88 ad (wC cI cN cW ad) nL ov out σ pc lv (.int v :: .ref (ad (4 + k)) :: st) :=
  zs_put (ty := .int) C (fun w h => zw_in (zw_fX0 w h)) tyX0 tyX0_ok nmX0 (4 + k) (zc_Node hk) rfl 5 (by decide) (zw_in hlink) rfl (by decide +kernel) rfl rfl (Nat.le_of_ble_eq_true rfl) (zc_set_Node_value hk v) hdg kk
theorem gC_Node_born (C : zs_C p s m args meth c cc nL (w0 :: zw_G) own D vwCl (tysC cI cN cW) 88 ad) (hk : k < 64) (hlink : Cond.fieldLink own index (TX0 6).1 (TX0 6).2.1 (TX0 6).2.2.1 ∈ zw_G) (hdg : decode cc pc = .ok (.getfield index, 3))
    (kk : zs_Z p l e R s m args below meth c D vwCl 88 ad (wC cI cN cW ad) nL ov out σ (pc + 3) lv (.int (σ 6 k) :: st)) : zs_Z p l e R s m args below meth c D vwCl 88 ad (wC cI cN cW ad) nL ov out σ pc lv (.ref (ad (4 + k)) :: st) :=
  zs_get C (fun w h => zw_in (zw_fX0 w h)) (4 + k) (by omega) (zc_Node hk) rfl 6 (by decide) (zw_in hlink) rfl hdg kk
theorem pC_Node_born (C : zs_C p s m args meth c cc nL (w0 :: zw_G) own D vwCl (tysC cI cN cW) 88 ad) {v : Int32} (hk : k < 64) (hlink : Cond.fieldLink own index (TX0 6).1 (TX0 6).2.1 (TX0 6).2.2.1 ∈ zw_G) (hdg : decode cc pc = .ok (.putfield index, 3))
    (kk : zs_Z p l e R s m args below meth c D vwCl 88 ad (wC cI cN cW ad) nL ov out (zs_u σ 6 k v) (pc + 3) lv (st)) : zs_Z p l e R s m args below meth c D vwCl 88 ad (wC cI cN cW ad) nL ov out σ pc lv (.int v :: .ref (ad (4 + k)) :: st) :=
  zs_put (ty := .int) C (fun w h => zw_in (zw_fX0 w h)) tyX0 tyX0_ok nmX0 (4 + k) (zc_Node hk) rfl 6 (by decide) (zw_in hlink) rfl (by decide +kernel) rfl rfl (Nat.le_of_ble_eq_true rfl) (zc_set_Node_born hk v) hdg kk
theorem gC_Node_died (C : zs_C p s m args meth c cc nL (w0 :: zw_G) own D vwCl (tysC cI cN cW) 88 ad) (hk : k < 64) (hlink : Cond.fieldLink own index (TX0 7).1 (TX0 7).2.1 (TX0 7).2.2.1 ∈ zw_G) (hdg : decode cc pc = .ok (.getfield index, 3))
    (kk : zs_Z p l e R s m args below meth c D vwCl 88 ad (wC cI cN cW ad) nL ov out σ (pc + 3) lv (.int (σ 7 k) :: st)) : zs_Z p l e R s m args below meth c D vwCl 88 ad (wC cI cN cW ad) nL ov out σ pc lv (.ref (ad (4 + k)) :: st) :=
  zs_get C (fun w h => zw_in (zw_fX0 w h)) (4 + k) (by omega) (zc_Node hk) rfl 7 (by decide) (zw_in hlink) rfl hdg kk
theorem pC_Node_died (C : zs_C p s m args meth c cc nL (w0 :: zw_G) own D vwCl (tysC cI cN cW) 88 ad) {v : Int32} (hk : k < 64) (hlink : Cond.fieldLink own index (TX0 7).1 (TX0 7).2.1 (TX0 7).2.2.1 ∈ zw_G) (hdg : decode cc pc = .ok (.putfield index, 3))
    (kk : zs_Z p l e R s m args below meth c D vwCl 88 ad (wC cI cN cW ad) nL ov out (zs_u σ 7 k v) (pc + 3) lv (st)) : zs_Z p l e R s m args below meth c D vwCl 88 ad (wC cI cN cW ad) nL ov out σ pc lv (.int v :: .ref (ad (4 + k)) :: st) :=
  zs_put (ty := .int) C (fun w h => zw_in (zw_fX0 w h)) tyX0 tyX0_ok nmX0 (4 + k) (zc_Node hk) rfl 7 (by decide) (zw_in hlink) rfl (by decide +kernel) rfl rfl (Nat.le_of_ble_eq_true rfl) (zc_set_Node_died hk v) hdg kk
theorem gC_Worker_place (C : zs_C p s m args meth c cc nL (w0 :: zw_G) own D vwCl (tysC cI cN cW) 88 ad) (hk : k < 4) (hlink : Cond.fieldLink own index (TX2 0).1 (TX2 0).2.1 (TX2 0).2.2.1 ∈ zw_G) (hdg : decode cc pc = .ok (.getfield index, 3))
    (kk : zs_Z p l e R s m args below meth c D vwCl 88 ad (wC cI cN cW ad) nL ov out σ (pc + 3) lv (.int (σ 10 k) :: st)) : zs_Z p l e R s m args below meth c D vwCl 88 ad (wC cI cN cW ad) nL ov out σ pc lv (.ref (ad (68 + k)) :: st) :=
  zs_get C (fun w h => zw_in (zw_fX2 w h)) (68 + k) (by omega) (zc_Worker hk) rfl 0 (by decide) (zw_in hlink) rfl hdg kk
theorem pC_Worker_place (C : zs_C p s m args meth c cc nL (w0 :: zw_G) own D vwCl (tysC cI cN cW) 88 ad) {v : Int32} (hk : k < 4) (hlink : Cond.fieldLink own index (TX2 0).1 (TX2 0).2.1 (TX2 0).2.2.1 ∈ zw_G) (hdg : decode cc pc = .ok (.putfield index, 3))
    (kk : zs_Z p l e R s m args below meth c D vwCl 88 ad (wC cI cN cW ad) nL ov out (zs_u σ 10 k v) (pc + 3) lv (st)) : zs_Z p l e R s m args below meth c D vwCl 88 ad (wC cI cN cW ad) nL ov out σ pc lv (.int v :: .ref (ad (68 + k)) :: st) :=
  zs_put (ty := .int) C (fun w h => zw_in (zw_fX2 w h)) tyX2 tyX2_ok nmX2 (68 + k) (zc_Worker hk) rfl 0 (by decide) (zw_in hlink) rfl (by decide +kernel) rfl rfl (Nat.le_of_ble_eq_true rfl) (zc_set_Worker_place hk v) hdg kk
theorem gC_Worker_operation (C : zs_C p s m args meth c cc nL (w0 :: zw_G) own D vwCl (tysC cI cN cW) 88 ad) (hk : k < 4) (hlink : Cond.fieldLink own index (TX2 1).1 (TX2 1).2.1 (TX2 1).2.2.1 ∈ zw_G) (hdg : decode cc pc = .ok (.getfield index, 3))
    (kk : zs_Z p l e R s m args below meth c D vwCl 88 ad (wC cI cN cW ad) nL ov out σ (pc + 3) lv (.int (σ 11 k) :: st)) : zs_Z p l e R s m args below meth c D vwCl 88 ad (wC cI cN cW ad) nL ov out σ pc lv (.ref (ad (68 + k)) :: st) :=
  zs_get C (fun w h => zw_in (zw_fX2 w h)) (68 + k) (by omega) (zc_Worker hk) rfl 1 (by decide) (zw_in hlink) rfl hdg kk
theorem pC_Worker_operation (C : zs_C p s m args meth c cc nL (w0 :: zw_G) own D vwCl (tysC cI cN cW) 88 ad) {v : Int32} (hk : k < 4) (hlink : Cond.fieldLink own index (TX2 1).1 (TX2 1).2.1 (TX2 1).2.2.1 ∈ zw_G) (hdg : decode cc pc = .ok (.putfield index, 3))
    (kk : zs_Z p l e R s m args below meth c D vwCl 88 ad (wC cI cN cW ad) nL ov out (zs_u σ 11 k v) (pc + 3) lv (st)) : zs_Z p l e R s m args below meth c D vwCl 88 ad (wC cI cN cW ad) nL ov out σ pc lv (.int v :: .ref (ad (68 + k)) :: st) :=
  zs_put (ty := .int) C (fun w h => zw_in (zw_fX2 w h)) tyX2 tyX2_ok nmX2 (68 + k) (zc_Worker hk) rfl 1 (by decide) (zw_in hlink) rfl (by decide +kernel) rfl rfl (Nat.le_of_ble_eq_true rfl) (zc_set_Worker_operation hk v) hdg kk
theorem gC_Worker_key (C : zs_C p s m args meth c cc nL (w0 :: zw_G) own D vwCl (tysC cI cN cW) 88 ad) (hk : k < 4) (hlink : Cond.fieldLink own index (TX2 2).1 (TX2 2).2.1 (TX2 2).2.2.1 ∈ zw_G) (hdg : decode cc pc = .ok (.getfield index, 3))
    (kk : zs_Z p l e R s m args below meth c D vwCl 88 ad (wC cI cN cW ad) nL ov out σ (pc + 3) lv (.int (σ 12 k) :: st)) : zs_Z p l e R s m args below meth c D vwCl 88 ad (wC cI cN cW ad) nL ov out σ pc lv (.ref (ad (68 + k)) :: st) :=
  zs_get C (fun w h => zw_in (zw_fX2 w h)) (68 + k) (by omega) (zc_Worker hk) rfl 2 (by decide) (zw_in hlink) rfl hdg kk
theorem pC_Worker_key (C : zs_C p s m args meth c cc nL (w0 :: zw_G) own D vwCl (tysC cI cN cW) 88 ad) {v : Int32} (hk : k < 4) (hlink : Cond.fieldLink own index (TX2 2).1 (TX2 2).2.1 (TX2 2).2.2.1 ∈ zw_G) (hdg : decode cc pc = .ok (.putfield index, 3))
    (kk : zs_Z p l e R s m args below meth c D vwCl 88 ad (wC cI cN cW ad) nL ov out (zs_u σ 12 k v) (pc + 3) lv (st)) : zs_Z p l e R s m args below meth c D vwCl 88 ad (wC cI cN cW ad) nL ov out σ pc lv (.int v :: .ref (ad (68 + k)) :: st) :=
  zs_put (ty := .int) C (fun w h => zw_in (zw_fX2 w h)) tyX2 tyX2_ok nmX2 (68 + k) (zc_Worker hk) rfl 2 (by decide) (zw_in hlink) rfl (by decide +kernel) rfl rfl (Nat.le_of_ble_eq_true rfl) (zc_set_Worker_key hk v) hdg kk
theorem gC_Worker_value (C : zs_C p s m args meth c cc nL (w0 :: zw_G) own D vwCl (tysC cI cN cW) 88 ad) (hk : k < 4) (hlink : Cond.fieldLink own index (TX2 3).1 (TX2 3).2.1 (TX2 3).2.2.1 ∈ zw_G) (hdg : decode cc pc = .ok (.getfield index, 3))
    (kk : zs_Z p l e R s m args below meth c D vwCl 88 ad (wC cI cN cW ad) nL ov out σ (pc + 3) lv (.int (σ 13 k) :: st)) : zs_Z p l e R s m args below meth c D vwCl 88 ad (wC cI cN cW ad) nL ov out σ pc lv (.ref (ad (68 + k)) :: st) :=
  zs_get C (fun w h => zw_in (zw_fX2 w h)) (68 + k) (by omega) (zc_Worker hk) rfl 3 (by decide) (zw_in hlink) rfl hdg kk
theorem pC_Worker_value (C : zs_C p s m args meth c cc nL (w0 :: zw_G) own D vwCl (tysC cI cN cW) 88 ad) {v : Int32} (hk : k < 4) (hlink : Cond.fieldLink own index (TX2 3).1 (TX2 3).2.1 (TX2 3).2.2.1 ∈ zw_G) (hdg : decode cc pc = .ok (.putfield index, 3))
    (kk : zs_Z p l e R s m args below meth c D vwCl 88 ad (wC cI cN cW ad) nL ov out (zs_u σ 13 k v) (pc + 3) lv (st)) : zs_Z p l e R s m args below meth c D vwCl 88 ad (wC cI cN cW ad) nL ov out σ pc lv (.int v :: .ref (ad (68 + k)) :: st) :=
  zs_put (ty := .int) C (fun w h => zw_in (zw_fX2 w h)) tyX2 tyX2_ok nmX2 (68 + k) (zc_Worker hk) rfl 3 (by decide) (zw_in hlink) rfl (by decide +kernel) rfl rfl (Nat.le_of_ble_eq_true rfl) (zc_set_Worker_value hk v) hdg kk
theorem gC_Worker_low (C : zs_C p s m args meth c cc nL (w0 :: zw_G) own D vwCl (tysC cI cN cW) 88 ad) (hk : k < 4) (hlink : Cond.fieldLink own index (TX2 4).1 (TX2 4).2.1 (TX2 4).2.2.1 ∈ zw_G) (hdg : decode cc pc = .ok (.getfield index, 3))
    (kk : zs_Z p l e R s m args below meth c D vwCl 88 ad (wC cI cN cW ad) nL ov out σ (pc + 3) lv (.int (σ 14 k) :: st)) : zs_Z p l e R s m args below meth c D vwCl 88 ad (wC cI cN cW ad) nL ov out σ pc lv (.ref (ad (68 + k)) :: st) :=
  zs_get C (fun w h => zw_in (zw_fX2 w h)) (68 + k) (by omega) (zc_Worker hk) rfl 4 (by decide) (zw_in hlink) rfl hdg kk
theorem pC_Worker_low (C : zs_C p s m args meth c cc nL (w0 :: zw_G) own D vwCl (tysC cI cN cW) 88 ad) {v : Int32} (hk : k < 4) (hlink : Cond.fieldLink own index (TX2 4).1 (TX2 4).2.1 (TX2 4).2.2.1 ∈ zw_G) (hdg : decode cc pc = .ok (.putfield index, 3))
    (kk : zs_Z p l e R s m args below meth c D vwCl 88 ad (wC cI cN cW ad) nL ov out (zs_u σ 14 k v) (pc + 3) lv (st)) : zs_Z p l e R s m args below meth c D vwCl 88 ad (wC cI cN cW ad) nL ov out σ pc lv (.int v :: .ref (ad (68 + k)) :: st) :=
  zs_put (ty := .int) C (fun w h => zw_in (zw_fX2 w h)) tyX2 tyX2_ok nmX2 (68 + k) (zc_Worker hk) rfl 4 (by decide) (zw_in hlink) rfl (by decide +kernel) rfl rfl (Nat.le_of_ble_eq_true rfl) (zc_set_Worker_low hk v) hdg kk
theorem gC_Worker_high (C : zs_C p s m args meth c cc nL (w0 :: zw_G) own D vwCl (tysC cI cN cW) 88 ad) (hk : k < 4) (hlink : Cond.fieldLink own index (TX2 5).1 (TX2 5).2.1 (TX2 5).2.2.1 ∈ zw_G) (hdg : decode cc pc = .ok (.getfield index, 3))
    (kk : zs_Z p l e R s m args below meth c D vwCl 88 ad (wC cI cN cW ad) nL ov out σ (pc + 3) lv (.int (σ 15 k) :: st)) : zs_Z p l e R s m args below meth c D vwCl 88 ad (wC cI cN cW ad) nL ov out σ pc lv (.ref (ad (68 + k)) :: st) :=
  zs_get C (fun w h => zw_in (zw_fX2 w h)) (68 + k) (by omega) (zc_Worker hk) rfl 5 (by decide) (zw_in hlink) rfl hdg kk
theorem pC_Worker_high (C : zs_C p s m args meth c cc nL (w0 :: zw_G) own D vwCl (tysC cI cN cW) 88 ad) {v : Int32} (hk : k < 4) (hlink : Cond.fieldLink own index (TX2 5).1 (TX2 5).2.1 (TX2 5).2.2.1 ∈ zw_G) (hdg : decode cc pc = .ok (.putfield index, 3))
    (kk : zs_Z p l e R s m args below meth c D vwCl 88 ad (wC cI cN cW ad) nL ov out (zs_u σ 15 k v) (pc + 3) lv (st)) : zs_Z p l e R s m args below meth c D vwCl 88 ad (wC cI cN cW ad) nL ov out σ pc lv (.int v :: .ref (ad (68 + k)) :: st) :=
  zs_put (ty := .int) C (fun w h => zw_in (zw_fX2 w h)) tyX2 tyX2_ok nmX2 (68 + k) (zc_Worker hk) rfl 5 (by decide) (zw_in hlink) rfl (by decide +kernel) rfl rfl (Nat.le_of_ble_eq_true rfl) (zc_set_Worker_high hk v) hdg kk
theorem gC_Worker_bucket (C : zs_C p s m args meth c cc nL (w0 :: zw_G) own D vwCl (tysC cI cN cW) 88 ad) (hk : k < 4) (hlink : Cond.fieldLink own index (TX2 6).1 (TX2 6).2.1 (TX2 6).2.2.1 ∈ zw_G) (hdg : decode cc pc = .ok (.getfield index, 3))
    (kk : zs_Z p l e R s m args below meth c D vwCl 88 ad (wC cI cN cW ad) nL ov out σ (pc + 3) lv (.int (σ 16 k) :: st)) : zs_Z p l e R s m args below meth c D vwCl 88 ad (wC cI cN cW ad) nL ov out σ pc lv (.ref (ad (68 + k)) :: st) :=
  zs_get C (fun w h => zw_in (zw_fX2 w h)) (68 + k) (by omega) (zc_Worker hk) rfl 6 (by decide) (zw_in hlink) rfl hdg kk
theorem pC_Worker_bucket (C : zs_C p s m args meth c cc nL (w0 :: zw_G) own D vwCl (tysC cI cN cW) 88 ad) {v : Int32} (hk : k < 4) (hlink : Cond.fieldLink own index (TX2 6).1 (TX2 6).2.1 (TX2 6).2.2.1 ∈ zw_G) (hdg : decode cc pc = .ok (.putfield index, 3))
    (kk : zs_Z p l e R s m args below meth c D vwCl 88 ad (wC cI cN cW ad) nL ov out (zs_u σ 16 k v) (pc + 3) lv (st)) : zs_Z p l e R s m args below meth c D vwCl 88 ad (wC cI cN cW ad) nL ov out σ pc lv (.int v :: .ref (ad (68 + k)) :: st) :=
  zs_put (ty := .int) C (fun w h => zw_in (zw_fX2 w h)) tyX2 tyX2_ok nmX2 (68 + k) (zc_Worker hk) rfl 6 (by decide) (zw_in hlink) rfl (by decide +kernel) rfl rfl (Nat.le_of_ble_eq_true rfl) (zc_set_Worker_bucket hk v) hdg kk
theorem gC_Worker_stack (C : zs_C p s m args meth c cc nL (w0 :: zw_G) own D vwCl (tysC cI cN cW) 88 ad) (hk : k < 4) (hlink : Cond.fieldLink own index (TX2 7).1 (TX2 7).2.1 (TX2 7).2.2.1 ∈ zw_G) (hdg : decode cc pc = .ok (.getfield index, 3))
    (kk : zs_Z p l e R s m args below meth c D vwCl 88 ad (wC cI cN cW ad) nL ov out σ (pc + 3) lv (.ref (ad (72 + k)) :: st)) : zs_Z p l e R s m args below meth c D vwCl 88 ad (wC cI cN cW ad) nL ov out σ pc lv (.ref (ad (68 + k)) :: st) :=
  zs_get C (fun w h => zw_in (zw_fX2 w h)) (68 + k) (by omega) (zc_Worker hk) rfl 7 (by decide) (zw_in hlink) rfl hdg kk
theorem gC_Worker_start (C : zs_C p s m args meth c cc nL (w0 :: zw_G) own D vwCl (tysC cI cN cW) 88 ad) (hk : k < 4) (hlink : Cond.fieldLink own index (TX2 8).1 (TX2 8).2.1 (TX2 8).2.2.1 ∈ zw_G) (hdg : decode cc pc = .ok (.getfield index, 3))
    (kk : zs_Z p l e R s m args below meth c D vwCl 88 ad (wC cI cN cW ad) nL ov out σ (pc + 3) lv (.int (σ 17 k) :: st)) : zs_Z p l e R s m args below meth c D vwCl 88 ad (wC cI cN cW ad) nL ov out σ pc lv (.ref (ad (68 + k)) :: st) :=
  zs_get C (fun w h => zw_in (zw_fX2 w h)) (68 + k) (by omega) (zc_Worker hk) rfl 8 (by decide) (zw_in hlink) rfl hdg kk
theorem pC_Worker_start (C : zs_C p s m args meth c cc nL (w0 :: zw_G) own D vwCl (tysC cI cN cW) 88 ad) {v : Int32} (hk : k < 4) (hlink : Cond.fieldLink own index (TX2 8).1 (TX2 8).2.1 (TX2 8).2.2.1 ∈ zw_G) (hdg : decode cc pc = .ok (.putfield index, 3))
    (kk : zs_Z p l e R s m args below meth c D vwCl 88 ad (wC cI cN cW ad) nL ov out (zs_u σ 17 k v) (pc + 3) lv (st)) : zs_Z p l e R s m args below meth c D vwCl 88 ad (wC cI cN cW ad) nL ov out σ pc lv (.int v :: .ref (ad (68 + k)) :: st) :=
  zs_put (ty := .int) C (fun w h => zw_in (zw_fX2 w h)) tyX2 tyX2_ok nmX2 (68 + k) (zc_Worker hk) rfl 8 (by decide) (zw_in hlink) rfl (by decide +kernel) rfl rfl (Nat.le_of_ble_eq_true rfl) (zc_set_Worker_start hk v) hdg kk
theorem gC_Worker_prev (C : zs_C p s m args meth c cc nL (w0 :: zw_G) own D vwCl (tysC cI cN cW) 88 ad) (hk : k < 4) (hlink : Cond.fieldLink own index (TX2 9).1 (TX2 9).2.1 (TX2 9).2.2.1 ∈ zw_G) (hdg : decode cc pc = .ok (.getfield index, 3))
    (kk : zs_Z p l e R s m args below meth c D vwCl 88 ad (wC cI cN cW ad) nL ov out σ (pc + 3) lv (.int (σ 18 k) :: st)) : zs_Z p l e R s m args below meth c D vwCl 88 ad (wC cI cN cW ad) nL ov out σ pc lv (.ref (ad (68 + k)) :: st) :=
  zs_get C (fun w h => zw_in (zw_fX2 w h)) (68 + k) (by omega) (zc_Worker hk) rfl 9 (by decide) (zw_in hlink) rfl hdg kk
theorem pC_Worker_prev (C : zs_C p s m args meth c cc nL (w0 :: zw_G) own D vwCl (tysC cI cN cW) 88 ad) {v : Int32} (hk : k < 4) (hlink : Cond.fieldLink own index (TX2 9).1 (TX2 9).2.1 (TX2 9).2.2.1 ∈ zw_G) (hdg : decode cc pc = .ok (.putfield index, 3))
    (kk : zs_Z p l e R s m args below meth c D vwCl 88 ad (wC cI cN cW ad) nL ov out (zs_u σ 18 k v) (pc + 3) lv (st)) : zs_Z p l e R s m args below meth c D vwCl 88 ad (wC cI cN cW ad) nL ov out σ pc lv (.int v :: .ref (ad (68 + k)) :: st) :=
  zs_put (ty := .int) C (fun w h => zw_in (zw_fX2 w h)) tyX2 tyX2_ok nmX2 (68 + k) (zc_Worker hk) rfl 9 (by decide) (zw_in hlink) rfl (by decide +kernel) rfl rfl (Nat.le_of_ble_eq_true rfl) (zc_set_Worker_prev hk v) hdg kk
theorem gC_Worker_cur (C : zs_C p s m args meth c cc nL (w0 :: zw_G) own D vwCl (tysC cI cN cW) 88 ad) (hk : k < 4) (hlink : Cond.fieldLink own index (TX2 10).1 (TX2 10).2.1 (TX2 10).2.2.1 ∈ zw_G) (hdg : decode cc pc = .ok (.getfield index, 3))
    (kk : zs_Z p l e R s m args below meth c D vwCl 88 ad (wC cI cN cW ad) nL ov out σ (pc + 3) lv (.int (σ 19 k) :: st)) : zs_Z p l e R s m args below meth c D vwCl 88 ad (wC cI cN cW ad) nL ov out σ pc lv (.ref (ad (68 + k)) :: st) :=
  zs_get C (fun w h => zw_in (zw_fX2 w h)) (68 + k) (by omega) (zc_Worker hk) rfl 10 (by decide) (zw_in hlink) rfl hdg kk
theorem pC_Worker_cur (C : zs_C p s m args meth c cc nL (w0 :: zw_G) own D vwCl (tysC cI cN cW) 88 ad) {v : Int32} (hk : k < 4) (hlink : Cond.fieldLink own index (TX2 10).1 (TX2 10).2.1 (TX2 10).2.2.1 ∈ zw_G) (hdg : decode cc pc = .ok (.putfield index, 3))
    (kk : zs_Z p l e R s m args below meth c D vwCl 88 ad (wC cI cN cW ad) nL ov out (zs_u σ 19 k v) (pc + 3) lv (st)) : zs_Z p l e R s m args below meth c D vwCl 88 ad (wC cI cN cW ad) nL ov out σ pc lv (.int v :: .ref (ad (68 + k)) :: st) :=
  zs_put (ty := .int) C (fun w h => zw_in (zw_fX2 w h)) tyX2 tyX2_ok nmX2 (68 + k) (zc_Worker hk) rfl 10 (by decide) (zw_in hlink) rfl (by decide +kernel) rfl rfl (Nat.le_of_ble_eq_true rfl) (zc_set_Worker_cur hk v) hdg kk
theorem gC_Worker_nxt (C : zs_C p s m args meth c cc nL (w0 :: zw_G) own D vwCl (tysC cI cN cW) 88 ad) (hk : k < 4) (hlink : Cond.fieldLink own index (TX2 11).1 (TX2 11).2.1 (TX2 11).2.2.1 ∈ zw_G) (hdg : decode cc pc = .ok (.getfield index, 3))
    (kk : zs_Z p l e R s m args below meth c D vwCl 88 ad (wC cI cN cW ad) nL ov out σ (pc + 3) lv (.int (σ 20 k) :: st)) : zs_Z p l e R s m args below meth c D vwCl 88 ad (wC cI cN cW ad) nL ov out σ pc lv (.ref (ad (68 + k)) :: st) :=
  zs_get C (fun w h => zw_in (zw_fX2 w h)) (68 + k) (by omega) (zc_Worker hk) rfl 11 (by decide) (zw_in hlink) rfl hdg kk
theorem pC_Worker_nxt (C : zs_C p s m args meth c cc nL (w0 :: zw_G) own D vwCl (tysC cI cN cW) 88 ad) {v : Int32} (hk : k < 4) (hlink : Cond.fieldLink own index (TX2 11).1 (TX2 11).2.1 (TX2 11).2.2.1 ∈ zw_G) (hdg : decode cc pc = .ok (.putfield index, 3))
    (kk : zs_Z p l e R s m args below meth c D vwCl 88 ad (wC cI cN cW ad) nL ov out (zs_u σ 20 k v) (pc + 3) lv (st)) : zs_Z p l e R s m args below meth c D vwCl 88 ad (wC cI cN cW ad) nL ov out σ pc lv (.int v :: .ref (ad (68 + k)) :: st) :=
  zs_put (ty := .int) C (fun w h => zw_in (zw_fX2 w h)) tyX2 tyX2_ok nmX2 (68 + k) (zc_Worker hk) rfl 11 (by decide) (zw_in hlink) rfl (by decide +kernel) rfl rfl (Nat.le_of_ble_eq_true rfl) (zc_set_Worker_nxt hk v) hdg kk
theorem gC_Worker_curMarked (C : zs_C p s m args meth c cc nL (w0 :: zw_G) own D vwCl (tysC cI cN cW) 88 ad) (hk : k < 4) (hlink : Cond.fieldLink own index (TX2 12).1 (TX2 12).2.1 (TX2 12).2.2.1 ∈ zw_G) (hdg : decode cc pc = .ok (.getfield index, 3))
    (kk : zs_Z p l e R s m args below meth c D vwCl 88 ad (wC cI cN cW ad) nL ov out σ (pc + 3) lv (.int (σ 21 k) :: st)) : zs_Z p l e R s m args below meth c D vwCl 88 ad (wC cI cN cW ad) nL ov out σ pc lv (.ref (ad (68 + k)) :: st) :=
  zs_get C (fun w h => zw_in (zw_fX2 w h)) (68 + k) (by omega) (zc_Worker hk) rfl 12 (by decide) (zw_in hlink) rfl hdg kk
theorem pC_Worker_curMarked (C : zs_C p s m args meth c cc nL (w0 :: zw_G) own D vwCl (tysC cI cN cW) 88 ad) {v : Int32} (hk : k < 4) (hlink : Cond.fieldLink own index (TX2 12).1 (TX2 12).2.1 (TX2 12).2.2.1 ∈ zw_G) (hz : zs_B v) (hdg : decode cc pc = .ok (.putfield index, 3))
    (kk : zs_Z p l e R s m args below meth c D vwCl 88 ad (wC cI cN cW ad) nL ov out (zs_u σ 21 k v) (pc + 3) lv (st)) : zs_Z p l e R s m args below meth c D vwCl 88 ad (wC cI cN cW ad) nL ov out σ pc lv (.int v :: .ref (ad (68 + k)) :: st) :=
  zs_put (ty := .boolean) C (fun w h => zw_in (zw_fX2 w h)) tyX2 tyX2_ok nmX2 (68 + k) (zc_Worker hk) rfl 12 (by decide) (zw_in hlink) rfl (by decide +kernel) (zs_nz hz) (zs_fz hz) (Nat.le_of_ble_eq_true rfl) (zc_set_Worker_curMarked hk v) hdg kk
theorem gC_Worker_own (C : zs_C p s m args meth c cc nL (w0 :: zw_G) own D vwCl (tysC cI cN cW) 88 ad) (hk : k < 4) (hlink : Cond.fieldLink own index (TX2 13).1 (TX2 13).2.1 (TX2 13).2.2.1 ∈ zw_G) (hdg : decode cc pc = .ok (.getfield index, 3))
    (kk : zs_Z p l e R s m args below meth c D vwCl 88 ad (wC cI cN cW ad) nL ov out σ (pc + 3) lv (.int (σ 22 k) :: st)) : zs_Z p l e R s m args below meth c D vwCl 88 ad (wC cI cN cW ad) nL ov out σ pc lv (.ref (ad (68 + k)) :: st) :=
  zs_get C (fun w h => zw_in (zw_fX2 w h)) (68 + k) (by omega) (zc_Worker hk) rfl 13 (by decide) (zw_in hlink) rfl hdg kk
theorem pC_Worker_own (C : zs_C p s m args meth c cc nL (w0 :: zw_G) own D vwCl (tysC cI cN cW) 88 ad) {v : Int32} (hk : k < 4) (hlink : Cond.fieldLink own index (TX2 13).1 (TX2 13).2.1 (TX2 13).2.2.1 ∈ zw_G) (hdg : decode cc pc = .ok (.putfield index, 3))
    (kk : zs_Z p l e R s m args below meth c D vwCl 88 ad (wC cI cN cW ad) nL ov out (zs_u σ 22 k v) (pc + 3) lv (st)) : zs_Z p l e R s m args below meth c D vwCl 88 ad (wC cI cN cW ad) nL ov out σ pc lv (.int v :: .ref (ad (68 + k)) :: st) :=
  zs_put (ty := .int) C (fun w h => zw_in (zw_fX2 w h)) tyX2 tyX2_ok nmX2 (68 + k) (zc_Worker hk) rfl 13 (by decide) (zw_in hlink) rfl (by decide +kernel) rfl rfl (Nat.le_of_ble_eq_true rfl) (zc_set_Worker_own hk v) hdg kk
theorem gC_Worker_bucketNode (C : zs_C p s m args meth c cc nL (w0 :: zw_G) own D vwCl (tysC cI cN cW) 88 ad) (hk : k < 4) (hlink : Cond.fieldLink own index (TX2 14).1 (TX2 14).2.1 (TX2 14).2.2.1 ∈ zw_G) (hdg : decode cc pc = .ok (.getfield index, 3))
    (kk : zs_Z p l e R s m args below meth c D vwCl 88 ad (wC cI cN cW ad) nL ov out σ (pc + 3) lv (.int (σ 23 k) :: st)) : zs_Z p l e R s m args below meth c D vwCl 88 ad (wC cI cN cW ad) nL ov out σ pc lv (.ref (ad (68 + k)) :: st) :=
  zs_get C (fun w h => zw_in (zw_fX2 w h)) (68 + k) (by omega) (zc_Worker hk) rfl 14 (by decide) (zw_in hlink) rfl hdg kk
theorem pC_Worker_bucketNode (C : zs_C p s m args meth c cc nL (w0 :: zw_G) own D vwCl (tysC cI cN cW) 88 ad) {v : Int32} (hk : k < 4) (hlink : Cond.fieldLink own index (TX2 14).1 (TX2 14).2.1 (TX2 14).2.2.1 ∈ zw_G) (hdg : decode cc pc = .ok (.putfield index, 3))
    (kk : zs_Z p l e R s m args below meth c D vwCl 88 ad (wC cI cN cW ad) nL ov out (zs_u σ 23 k v) (pc + 3) lv (st)) : zs_Z p l e R s m args below meth c D vwCl 88 ad (wC cI cN cW ad) nL ov out σ pc lv (.int v :: .ref (ad (68 + k)) :: st) :=
  zs_put (ty := .int) C (fun w h => zw_in (zw_fX2 w h)) tyX2 tyX2_ok nmX2 (68 + k) (zc_Worker hk) rfl 14 (by decide) (zw_in hlink) rfl (by decide +kernel) rfl rfl (Nat.le_of_ble_eq_true rfl) (zc_set_Worker_bucketNode hk v) hdg kk
theorem gC_Worker_cleans (C : zs_C p s m args meth c cc nL (w0 :: zw_G) own D vwCl (tysC cI cN cW) 88 ad) (hk : k < 4) (hlink : Cond.fieldLink own index (TX2 15).1 (TX2 15).2.1 (TX2 15).2.2.1 ∈ zw_G) (hdg : decode cc pc = .ok (.getfield index, 3))
    (kk : zs_Z p l e R s m args below meth c D vwCl 88 ad (wC cI cN cW ad) nL ov out σ (pc + 3) lv (.int (σ 24 k) :: st)) : zs_Z p l e R s m args below meth c D vwCl 88 ad (wC cI cN cW ad) nL ov out σ pc lv (.ref (ad (68 + k)) :: st) :=
  zs_get C (fun w h => zw_in (zw_fX2 w h)) (68 + k) (by omega) (zc_Worker hk) rfl 15 (by decide) (zw_in hlink) rfl hdg kk
theorem pC_Worker_cleans (C : zs_C p s m args meth c cc nL (w0 :: zw_G) own D vwCl (tysC cI cN cW) 88 ad) {v : Int32} (hk : k < 4) (hlink : Cond.fieldLink own index (TX2 15).1 (TX2 15).2.1 (TX2 15).2.2.1 ∈ zw_G) (hz : zs_B v) (hdg : decode cc pc = .ok (.putfield index, 3))
    (kk : zs_Z p l e R s m args below meth c D vwCl 88 ad (wC cI cN cW ad) nL ov out (zs_u σ 24 k v) (pc + 3) lv (st)) : zs_Z p l e R s m args below meth c D vwCl 88 ad (wC cI cN cW ad) nL ov out σ pc lv (.int v :: .ref (ad (68 + k)) :: st) :=
  zs_put (ty := .boolean) C (fun w h => zw_in (zw_fX2 w h)) tyX2 tyX2_ok nmX2 (68 + k) (zc_Worker hk) rfl 15 (by decide) (zw_in hlink) rfl (by decide +kernel) (zs_nz hz) (zs_fz hz) (Nat.le_of_ble_eq_true rfl) (zc_set_Worker_cleans hk v) hdg kk
theorem gC_Worker_answer (C : zs_C p s m args meth c cc nL (w0 :: zw_G) own D vwCl (tysC cI cN cW) 88 ad) (hk : k < 4) (hlink : Cond.fieldLink own index (TX2 16).1 (TX2 16).2.1 (TX2 16).2.2.1 ∈ zw_G) (hdg : decode cc pc = .ok (.getfield index, 3))
    (kk : zs_Z p l e R s m args below meth c D vwCl 88 ad (wC cI cN cW ad) nL ov out σ (pc + 3) lv (.int (σ 25 k) :: st)) : zs_Z p l e R s m args below meth c D vwCl 88 ad (wC cI cN cW ad) nL ov out σ pc lv (.ref (ad (68 + k)) :: st) :=
  zs_get C (fun w h => zw_in (zw_fX2 w h)) (68 + k) (by omega) (zc_Worker hk) rfl 16 (by decide) (zw_in hlink) rfl hdg kk
theorem pC_Worker_answer (C : zs_C p s m args meth c cc nL (w0 :: zw_G) own D vwCl (tysC cI cN cW) 88 ad) {v : Int32} (hk : k < 4) (hlink : Cond.fieldLink own index (TX2 16).1 (TX2 16).2.1 (TX2 16).2.2.1 ∈ zw_G) (hdg : decode cc pc = .ok (.putfield index, 3))
    (kk : zs_Z p l e R s m args below meth c D vwCl 88 ad (wC cI cN cW ad) nL ov out (zs_u σ 25 k v) (pc + 3) lv (st)) : zs_Z p l e R s m args below meth c D vwCl 88 ad (wC cI cN cW ad) nL ov out σ pc lv (.int v :: .ref (ad (68 + k)) :: st) :=
  zs_put (ty := .int) C (fun w h => zw_in (zw_fX2 w h)) tyX2 tyX2_ok nmX2 (68 + k) (zc_Worker hk) rfl 16 (by decide) (zw_in hlink) rfl (by decide +kernel) rfl rfl (Nat.le_of_ble_eq_true rfl) (zc_set_Worker_answer hk v) hdg kk
theorem gC_Worker_latest (C : zs_C p s m args meth c cc nL (w0 :: zw_G) own D vwCl (tysC cI cN cW) 88 ad) (hk : k < 4) (hlink : Cond.fieldLink own index (TX2 17).1 (TX2 17).2.1 (TX2 17).2.2.1 ∈ zw_G) (hdg : decode cc pc = .ok (.getfield index, 3))
    (kk : zs_Z p l e R s m args below meth c D vwCl 88 ad (wC cI cN cW ad) nL ov out σ (pc + 3) lv (.int (σ 26 k) :: st)) : zs_Z p l e R s m args below meth c D vwCl 88 ad (wC cI cN cW ad) nL ov out σ pc lv (.ref (ad (68 + k)) :: st) :=
  zs_get C (fun w h => zw_in (zw_fX2 w h)) (68 + k) (by omega) (zc_Worker hk) rfl 17 (by decide) (zw_in hlink) rfl hdg kk
theorem pC_Worker_latest (C : zs_C p s m args meth c cc nL (w0 :: zw_G) own D vwCl (tysC cI cN cW) 88 ad) {v : Int32} (hk : k < 4) (hlink : Cond.fieldLink own index (TX2 17).1 (TX2 17).2.1 (TX2 17).2.2.1 ∈ zw_G) (hdg : decode cc pc = .ok (.putfield index, 3))
    (kk : zs_Z p l e R s m args below meth c D vwCl 88 ad (wC cI cN cW ad) nL ov out (zs_u σ 26 k v) (pc + 3) lv (st)) : zs_Z p l e R s m args below meth c D vwCl 88 ad (wC cI cN cW ad) nL ov out σ pc lv (.int v :: .ref (ad (68 + k)) :: st) :=
  zs_put (ty := .int) C (fun w h => zw_in (zw_fX2 w h)) tyX2 tyX2_ok nmX2 (68 + k) (zc_Worker hk) rfl 17 (by decide) (zw_in hlink) rfl (by decide +kernel) rfl rfl (Nat.le_of_ble_eq_true rfl) (zc_set_Worker_latest hk v) hdg kk
theorem gC_Worker_row (C : zs_C p s m args meth c cc nL (w0 :: zw_G) own D vwCl (tysC cI cN cW) 88 ad) (hk : k < 4) (hlink : Cond.fieldLink own index (TX2 18).1 (TX2 18).2.1 (TX2 18).2.2.1 ∈ zw_G) (hdg : decode cc pc = .ok (.getfield index, 3))
    (kk : zs_Z p l e R s m args below meth c D vwCl 88 ad (wC cI cN cW ad) nL ov out σ (pc + 3) lv (.ref (ad (72 + (4 + k))) :: st)) : zs_Z p l e R s m args below meth c D vwCl 88 ad (wC cI cN cW ad) nL ov out σ pc lv (.ref (ad (68 + k)) :: st) :=
  zs_get C (fun w h => zw_in (zw_fX2 w h)) (68 + k) (by omega) (zc_Worker hk) rfl 18 (by decide) (zw_in hlink) rfl hdg kk
theorem gC_Num_items (C : zs_C p s m args meth c cc nL (w0 :: zw_G) own D vwCl (tysC cI cN cW) 88 ad) (hk : k < 8) (hlink : Cond.fieldLink own index (TX1 0).1 (TX1 0).2.1 (TX1 0).2.2.1 ∈ zw_G) (hdg : decode cc pc = .ok (.getfield index, 3))
    (kk : zs_Z p l e R s m args below meth c D vwCl 88 ad (wC cI cN cW ad) nL ov out σ (pc + 3) lv (.ref (ad (80 + k)) :: st)) : zs_Z p l e R s m args below meth c D vwCl 88 ad (wC cI cN cW ad) nL ov out σ pc lv (.ref (ad (72 + k)) :: st) :=
  zs_get C (fun w h => zw_in (zw_fX1 w h)) (72 + k) (by omega) (zc_Num hk) rfl 0 (by decide) (zw_in hlink) rfl hdg kk
theorem gC_Num_length (C : zs_C p s m args meth c cc nL (w0 :: zw_G) own D vwCl (tysC cI cN cW) 88 ad) (hk : k < 8) (hlink : Cond.fieldLink own index (TX1 1).1 (TX1 1).2.1 (TX1 1).2.2.1 ∈ zw_G) (hdg : decode cc pc = .ok (.getfield index, 3))
    (kk : zs_Z p l e R s m args below meth c D vwCl 88 ad (wC cI cN cW ad) nL ov out σ (pc + 3) lv (.int (σ 30 k) :: st)) : zs_Z p l e R s m args below meth c D vwCl 88 ad (wC cI cN cW ad) nL ov out σ pc lv (.ref (ad (72 + k)) :: st) :=
  zs_get C (fun w h => zw_in (zw_fX1 w h)) (72 + k) (by omega) (zc_Num hk) rfl 1 (by decide) (zw_in hlink) rfl hdg kk
theorem pC_Num_length (C : zs_C p s m args meth c cc nL (w0 :: zw_G) own D vwCl (tysC cI cN cW) 88 ad) {v : Int32} (hk : k < 8) (hlink : Cond.fieldLink own index (TX1 1).1 (TX1 1).2.1 (TX1 1).2.2.1 ∈ zw_G) (hdg : decode cc pc = .ok (.putfield index, 3))
    (kk : zs_Z p l e R s m args below meth c D vwCl 88 ad (wC cI cN cW ad) nL ov out (zs_u σ 30 k v) (pc + 3) lv (st)) : zs_Z p l e R s m args below meth c D vwCl 88 ad (wC cI cN cW ad) nL ov out σ pc lv (.int v :: .ref (ad (72 + k)) :: st) :=
  zs_put (ty := .int) C (fun w h => zw_in (zw_fX1 w h)) tyX1 tyX1_ok nmX1 (72 + k) (zc_Num hk) rfl 1 (by decide) (zw_in hlink) rfl (by decide +kernel) rfl rfl (Nat.le_of_ble_eq_true rfl) (zc_set_Num_length hk v) hdg kk
theorem aC_nodes (C : zs_C p s m args meth c cc nL (w0 :: zw_G) own D vwCl (tysC cI cN cW) 88 ad) {i : Int32} (hin : vp_in i 64) (hdg : decode cc pc = .ok (.aaload, 1))
    (kk : zs_Z p l e R s m args below meth c D vwCl 88 ad (wC cI cN cW ad) nL ov out σ (pc + 1) lv (.ref (ad (4 + i.toNatClampNeg)) :: st)) : zs_Z p l e R s m args below meth c D vwCl 88 ad (wC cI cN cW ad) nL ov out σ pc lv (.int i :: .ref (ad 1) :: st) :=
  zs_aald C 1 1 (by decide) zc_NODES rfl hin rfl hdg kk
theorem aC_workers (C : zs_C p s m args meth c cc nL (w0 :: zw_G) own D vwCl (tysC cI cN cW) 88 ad) {i : Int32} (hin : vp_in i 4) (hdg : decode cc pc = .ok (.aaload, 1))
    (kk : zs_Z p l e R s m args below meth c D vwCl 88 ad (wC cI cN cW ad) nL ov out σ (pc + 1) lv (.ref (ad (68 + i.toNatClampNeg)) :: st)) : zs_Z p l e R s m args below meth c D vwCl 88 ad (wC cI cN cW ad) nL ov out σ pc lv (.int i :: .ref (ad 2) :: st) :=
  zs_aald C 2 2 (by decide) zc_WORKERS rfl hin rfl hdg kk
theorem aC_bk (C : zs_C p s m args meth c cc nL (w0 :: zw_G) own D vwCl (tysC cI cN cW) 88 ad) {i : Int32} (hin : vp_in i 16) (hdg : decode cc pc = .ok (.iaload, 1))
    (kk : zs_Z p l e R s m args below meth c D vwCl 88 ad (wC cI cN cW ad) nL ov out σ (pc + 1) lv (.int (σ 31 (i.toNatClampNeg)) :: st)) : zs_Z p l e R s m args below meth c D vwCl 88 ad (wC cI cN cW ad) nL ov out σ pc lv (.int i :: .ref (ad 3) :: st) :=
  zs_iald C 3 0 (by decide) zc_BK rfl hin hdg kk
theorem sC_bk (C : zs_C p s m args meth c cc nL (w0 :: zw_G) own D vwCl (tysC cI cN cW) 88 ad) {i x : Int32} (hin : vp_in i 16) (hdg : decode cc pc = .ok (.iastore, 1))
    (kk : zs_Z p l e R s m args below meth c D vwCl 88 ad (wC cI cN cW ad) nL ov out (zs_u σ 31 (i.toNatClampNeg) x) (pc + 1) lv (st)) : zs_Z p l e R s m args below meth c D vwCl 88 ad (wC cI cN cW ad) nL ov out σ pc lv (.int x :: .int i :: .ref (ad 3) :: st) :=
  zs_iast C 3 0 zc_BK rfl hin (zc_set_bk _ _) hdg kk
theorem aC_items (C : zs_C p s m args meth c cc nL (w0 :: zw_G) own D vwCl (tysC cI cN cW) 88 ad) {i : Int32} (hk : k < 8) (hin : vp_in i (zc_len k)) (hdg : decode cc pc = .ok (.iaload, 1))
    (kk : zs_Z p l e R s m args below meth c D vwCl 88 ad (wC cI cN cW ad) nL ov out σ (pc + 1) lv (.int (σ (40 + k) (i.toNatClampNeg)) :: st)) : zs_Z p l e R s m args below meth c D vwCl 88 ad (wC cI cN cW ad) nL ov out σ pc lv (.int i :: .ref (ad (80 + k)) :: st) :=
  zs_iald C (80 + k) 0 (by omega) (zc_Items hk) rfl hin hdg kk
theorem sC_items (C : zs_C p s m args meth c cc nL (w0 :: zw_G) own D vwCl (tysC cI cN cW) 88 ad) {i x : Int32} (hk : k < 8) (hin : vp_in i (zc_len k)) (hdg : decode cc pc = .ok (.iastore, 1))
    (kk : zs_Z p l e R s m args below meth c D vwCl 88 ad (wC cI cN cW ad) nL ov out (zs_u σ (40 + k) (i.toNatClampNeg) x) (pc + 1) lv (st)) : zs_Z p l e R s m args below meth c D vwCl 88 ad (wC cI cN cW ad) nL ov out σ pc lv (.int x :: .int i :: .ref (ad (80 + k)) :: st) :=
  zs_iast C (80 + k) 0 (zc_Items hk) rfl hin (zc_set_items hk _ _) hdg kk
theorem lC_items (C : zs_C p s m args meth c cc nL (w0 :: zw_G) own D vwCl (tysC cI cN cW) 88 ad) (hk : k < 8) (hdg : decode cc pc = .ok (.arraylength, 1))
    (kk : zs_Z p l e R s m args below meth c D vwCl 88 ad (wC cI cN cW ad) nL ov out σ (pc + 1) lv (.int (Int32.ofNat (zc_len k)) :: st)) : zs_Z p l e R s m args below meth c D vwCl 88 ad (wC cI cN cW ad) nL ov out σ pc lv (.ref (ad (80 + k)) :: st) :=
  zs_alen C (80 + k) 0 (by omega) (zc_Items hk) rfl rfl hdg kk
end ZCR
end
section
theorem lkX0_9 : Cond.fieldLink RX0 9 "SplitStore$Node" "state" "I" ∈ zw_G := zw_mem 66 (by decide +kernel) rfl
theorem lkX3_108 : Cond.fieldLink RX3 108 "SplitStore$Node" "state" "I" ∈ zw_G := zw_mem 67 (by decide +kernel) rfl
theorem lkX0_15 : Cond.fieldLink RX0 15 "SplitStore$Node" "order" "I" ∈ zw_G := zw_mem 68 (by decide +kernel) rfl
theorem lkX3_111 : Cond.fieldLink RX3 111 "SplitStore$Node" "order" "I" ∈ zw_G := zw_mem 69 (by decide +kernel) rfl
theorem lkX0_18 : Cond.fieldLink RX0 18 "SplitStore$Node" "next" "I" ∈ zw_G := zw_mem 70 (by decide +kernel) rfl
theorem lkX3_114 : Cond.fieldLink RX3 114 "SplitStore$Node" "next" "I" ∈ zw_G := zw_mem 71 (by decide +kernel) rfl
theorem lkX0_21 : Cond.fieldLink RX0 21 "SplitStore$Node" "marked" "Z" ∈ zw_G := zw_mem 72 (by decide +kernel) rfl
theorem lkX3_117 : Cond.fieldLink RX3 117 "SplitStore$Node" "marked" "Z" ∈ zw_G := zw_mem 73 (by decide +kernel) rfl
theorem lkX0_25 : Cond.fieldLink RX0 25 "SplitStore$Node" "key" "I" ∈ zw_G := zw_mem 74 (by decide +kernel) rfl
theorem lkX3_121 : Cond.fieldLink RX3 121 "SplitStore$Node" "key" "I" ∈ zw_G := zw_mem 75 (by decide +kernel) rfl
theorem lkX0_28 : Cond.fieldLink RX0 28 "SplitStore$Node" "value" "I" ∈ zw_G := zw_mem 76 (by decide +kernel) rfl
theorem lkX3_124 : Cond.fieldLink RX3 124 "SplitStore$Node" "value" "I" ∈ zw_G := zw_mem 77 (by decide +kernel) rfl
theorem lkX0_31 : Cond.fieldLink RX0 31 "SplitStore$Node" "born" "I" ∈ zw_G := zw_mem 78 (by decide +kernel) rfl
theorem lkX3_127 : Cond.fieldLink RX3 127 "SplitStore$Node" "born" "I" ∈ zw_G := zw_mem 79 (by decide +kernel) rfl
theorem lkX0_34 : Cond.fieldLink RX0 34 "SplitStore$Node" "died" "I" ∈ zw_G := zw_mem 80 (by decide +kernel) rfl
theorem lkX3_130 : Cond.fieldLink RX3 130 "SplitStore$Node" "died" "I" ∈ zw_G := zw_mem 81 (by decide +kernel) rfl
theorem lkX1_15 : Cond.fieldLink RX1 15 "SplitStore$Numbers" "items" "[I" ∈ zw_G := zw_mem 111 (by decide +kernel) rfl
theorem lkX1_9 : Cond.fieldLink RX1 9 "SplitStore$Numbers" "length" "I" ∈ zw_G := zw_mem 112 (by decide +kernel) rfl
theorem lkX3_81 : Cond.fieldLink RX3 81 "SplitStore$Numbers" "length" "I" ∈ zw_G := zw_mem 113 (by decide +kernel) rfl
theorem lkX2_9 : Cond.fieldLink RX2 9 "SplitStore$Worker" "place" "I" ∈ zw_G := zw_mem 119 (by decide +kernel) rfl
theorem lkX3_50 : Cond.fieldLink RX3 50 "SplitStore$Worker" "place" "I" ∈ zw_G := zw_mem 120 (by decide +kernel) rfl
theorem lkX2_15 : Cond.fieldLink RX2 15 "SplitStore$Worker" "operation" "I" ∈ zw_G := zw_mem 121 (by decide +kernel) rfl
theorem lkX3_232 : Cond.fieldLink RX3 232 "SplitStore$Worker" "operation" "I" ∈ zw_G := zw_mem 122 (by decide +kernel) rfl
theorem lkX2_18 : Cond.fieldLink RX2 18 "SplitStore$Worker" "key" "I" ∈ zw_G := zw_mem 123 (by decide +kernel) rfl
theorem lkX3_180 : Cond.fieldLink RX3 180 "SplitStore$Worker" "key" "I" ∈ zw_G := zw_mem 124 (by decide +kernel) rfl
theorem lkX2_21 : Cond.fieldLink RX2 21 "SplitStore$Worker" "value" "I" ∈ zw_G := zw_mem 125 (by decide +kernel) rfl
theorem lkX3_286 : Cond.fieldLink RX3 286 "SplitStore$Worker" "value" "I" ∈ zw_G := zw_mem 126 (by decide +kernel) rfl
theorem lkX2_24 : Cond.fieldLink RX2 24 "SplitStore$Worker" "low" "I" ∈ zw_G := zw_mem 127 (by decide +kernel) rfl
theorem lkX3_71 : Cond.fieldLink RX3 71 "SplitStore$Worker" "low" "I" ∈ zw_G := zw_mem 128 (by decide +kernel) rfl
theorem lkX2_27 : Cond.fieldLink RX2 27 "SplitStore$Worker" "high" "I" ∈ zw_G := zw_mem 129 (by decide +kernel) rfl
theorem lkX3_74 : Cond.fieldLink RX3 74 "SplitStore$Worker" "high" "I" ∈ zw_G := zw_mem 130 (by decide +kernel) rfl
theorem lkX3_184 : Cond.fieldLink RX3 184 "SplitStore$Worker" "bucket" "I" ∈ zw_G := zw_mem 132 (by decide +kernel) rfl
theorem lkX2_38 : Cond.fieldLink RX2 38 "SplitStore$Worker" "stack" "LSplitStore$Numbers;" ∈ zw_G := zw_mem 133 (by decide +kernel) rfl
theorem lkX3_86 : Cond.fieldLink RX3 86 "SplitStore$Worker" "stack" "LSplitStore$Numbers;" ∈ zw_G := zw_mem 134 (by decide +kernel) rfl
theorem lkX3_191 : Cond.fieldLink RX3 191 "SplitStore$Worker" "start" "I" ∈ zw_G := zw_mem 136 (by decide +kernel) rfl
theorem lkX2_45 : Cond.fieldLink RX2 45 "SplitStore$Worker" "prev" "I" ∈ zw_G := zw_mem 137 (by decide +kernel) rfl
theorem lkX3_89 : Cond.fieldLink RX3 89 "SplitStore$Worker" "prev" "I" ∈ zw_G := zw_mem 138 (by decide +kernel) rfl
theorem lkX2_48 : Cond.fieldLink RX2 48 "SplitStore$Worker" "cur" "I" ∈ zw_G := zw_mem 139 (by decide +kernel) rfl
theorem lkX3_92 : Cond.fieldLink RX3 92 "SplitStore$Worker" "cur" "I" ∈ zw_G := zw_mem 140 (by decide +kernel) rfl
theorem lkX2_51 : Cond.fieldLink RX2 51 "SplitStore$Worker" "nxt" "I" ∈ zw_G := zw_mem 141 (by decide +kernel) rfl
theorem lkX3_95 : Cond.fieldLink RX3 95 "SplitStore$Worker" "nxt" "I" ∈ zw_G := zw_mem 142 (by decide +kernel) rfl
theorem lkX3_211 : Cond.fieldLink RX3 211 "SplitStore$Worker" "curMarked" "Z" ∈ zw_G := zw_mem 144 (by decide +kernel) rfl
theorem lkX3_98 : Cond.fieldLink RX3 98 "SplitStore$Worker" "own" "I" ∈ zw_G := zw_mem 146 (by decide +kernel) rfl
theorem lkX3_226 : Cond.fieldLink RX3 226 "SplitStore$Worker" "bucketNode" "I" ∈ zw_G := zw_mem 148 (by decide +kernel) rfl
theorem lkX2_64 : Cond.fieldLink RX2 64 "SplitStore$Worker" "cleans" "Z" ∈ zw_G := zw_mem 149 (by decide +kernel) rfl
theorem lkX3_229 : Cond.fieldLink RX3 229 "SplitStore$Worker" "cleans" "Z" ∈ zw_G := zw_mem 150 (by decide +kernel) rfl
theorem lkX3_269 : Cond.fieldLink RX3 269 "SplitStore$Worker" "answer" "I" ∈ zw_G := zw_mem 152 (by decide +kernel) rfl
theorem lkX2_70 : Cond.fieldLink RX2 70 "SplitStore$Worker" "latest" "I" ∈ zw_G := zw_mem 153 (by decide +kernel) rfl
theorem lkX3_68 : Cond.fieldLink RX3 68 "SplitStore$Worker" "latest" "I" ∈ zw_G := zw_mem 154 (by decide +kernel) rfl
theorem lkX3_77 : Cond.fieldLink RX3 77 "SplitStore$Worker" "row" "LSplitStore$Numbers;" ∈ zw_G := zw_mem 156 (by decide +kernel) rfl
theorem lkX3_37 : Cond.methodLink RX3 37 yX3_orderOfBucket ∈ zw_G := zw_mem 196 (by decide +kernel) rfl
theorem lkX3_290 : Cond.methodLink RX3 290 yX3_turned ∈ zw_G := zw_mem 199 (by decide +kernel) rfl
theorem lkX3_41 : Cond.methodLink RX3 41 yX0_appear ∈ zw_G := zw_mem 202 (by decide +kernel) rfl
theorem lkX0_37 : Cond.methodLink RX0 37 yX0_pointTo ∈ zw_G := zw_mem 206 (by decide +kernel) rfl
theorem lkX3_11 : Cond.fieldLink RX3 11 "SplitStore" "nodes" "[LSplitStore$Node;" ∈ zw_G := zw_mem 210 (by decide +kernel) rfl
theorem lkX3_17 : Cond.fieldLink RX3 17 "SplitStore" "workers" "[LSplitStore$Worker;" ∈ zw_G := zw_mem 211 (by decide +kernel) rfl
theorem lkX3_21 : Cond.fieldLink RX3 21 "SplitStore" "bucketNodes" "[I" ∈ zw_G := zw_mem 212 (by decide +kernel) rfl
theorem lkX3_25 : Cond.fieldLink RX3 25 "SplitStore" "size" "I" ∈ zw_G := zw_mem 213 (by decide +kernel) rfl
theorem lkX3_29 : Cond.fieldLink RX3 29 "SplitStore" "count" "I" ∈ zw_G := zw_mem 214 (by decide +kernel) rfl
theorem lkX3_32 : Cond.fieldLink RX3 32 "SplitStore" "era" "I" ∈ zw_G := zw_mem 215 (by decide +kernel) rfl
theorem lkX3_45 : Cond.methodLink RX3 45 yX3_isProcess ∈ zw_G := zw_mem 233 (by decide +kernel) rfl
theorem lkX3_49 : Cond.constant RX3 49 1000000 ∈ zw_G := zw_mem 236 (by decide +kernel) rfl
theorem lkX3_53 : Cond.methodLink RX3 53 yX2_begin ∈ zw_G := zw_mem 237 (by decide +kernel) rfl
theorem lkX3_57 : Cond.methodLink RX3 57 yX3_advance ∈ zw_G := zw_mem 245 (by decide +kernel) rfl
theorem lkX3_141 : Cond.methodLink RX3 141 yX3_enter ∈ zw_G := zw_mem 249 (by decide +kernel) rfl
theorem lkX3_181 : Cond.methodLink RX3 181 yX3_hashOf ∈ zw_G := zw_mem 253 (by decide +kernel) rfl
theorem lkX3_187 : Cond.methodLink RX3 187 yX1_cutTo ∈ zw_G := zw_mem 256 (by decide +kernel) rfl
theorem lkX3_144 : Cond.methodLink RX3 144 yX3_seekBucket ∈ zw_G := zw_mem 260 (by decide +kernel) rfl
theorem lkX3_135 : Cond.methodLink RX3 135 yX3_nodeOfBucket ∈ zw_G := zw_mem 264 (by decide +kernel) rfl
theorem lkX3_263 : Cond.methodLink RX3 263 yX3_isBucket ∈ zw_G := zw_mem 268 (by decide +kernel) rfl
theorem lkX3_194 : Cond.methodLink RX3 194 yX1_add ∈ zw_G := zw_mem 271 (by decide +kernel) rfl
theorem lkX3_197 : Cond.methodLink RX3 197 yX3_parentOf ∈ zw_G := zw_mem 275 (by decide +kernel) rfl
theorem lkX3_147 : Cond.methodLink RX3 147 yX3_loadStart ∈ zw_G := zw_mem 278 (by decide +kernel) rfl
theorem lkX3_200 : Cond.methodLink RX3 200 yX3_mayLoad ∈ zw_G := zw_mem 282 (by decide +kernel) rfl
theorem lkX3_204 : Cond.methodLink RX3 204 yX3_nextOf ∈ zw_G := zw_mem 286 (by decide +kernel) rfl
theorem lkX3_103 : Cond.methodLink RX3 103 yX3_isNode ∈ zw_G := zw_mem 290 (by decide +kernel) rfl
theorem lkX3_150 : Cond.methodLink RX3 150 yX3_loadCur ∈ zw_G := zw_mem 293 (by decide +kernel) rfl
theorem lkX3_207 : Cond.methodLink RX3 207 yX3_searchOver ∈ zw_G := zw_mem 297 (by decide +kernel) rfl
theorem lkX3_222 : Cond.methodLink RX3 222 yX1_isEmpty ∈ zw_G := zw_mem 301 (by decide +kernel) rfl
theorem lkX3_235 : Cond.methodLink RX3 235 yX3_valueOf ∈ zw_G := zw_mem 305 (by decide +kernel) rfl
theorem lkX3_238 : Cond.methodLink RX3 238 yX3_end ∈ zw_G := zw_mem 309 (by decide +kernel) rfl
theorem lkX3_256 : Cond.methodLink RX3 256 yX3_freeOwn ∈ zw_G := zw_mem 313 (by decide +kernel) rfl
theorem lkX3_283 : Cond.methodLink RX3 283 yX2_rest ∈ zw_G := zw_mem 317 (by decide +kernel) rfl
theorem lkX2_76 : Cond.methodLink RX2 76 yX1_cutTo ∈ zw_G := zw_mem 321 (by decide +kernel) rfl
theorem lkX3_153 : Cond.methodLink RX3 153 yX3_compare ∈ zw_G := zw_mem 322 (by decide +kernel) rfl
theorem lkX3_214 : Cond.methodLink RX3 214 yX3_leadsTo ∈ zw_G := zw_mem 326 (by decide +kernel) rfl
theorem lkX3_218 : Cond.methodLink RX3 218 yX3_wantedOrder ∈ zw_G := zw_mem 330 (by decide +kernel) rfl
theorem lkX3_287 : Cond.methodLink RX3 287 yX3_orderOfKey ∈ zw_G := zw_mem 333 (by decide +kernel) rfl
theorem lkX3_259 : Cond.methodLink RX3 259 yX1_top ∈ zw_G := zw_mem 336 (by decide +kernel) rfl
theorem lkX1_19 : Cond.methodLink RX1 19 yX1_at ∈ zw_G := zw_mem 340 (by decide +kernel) rfl
theorem lkX3_156 : Cond.methodLink RX3 156 yX3_unlinkMarked ∈ zw_G := zw_mem 344 (by decide +kernel) rfl
theorem lkX3_242 : Cond.methodLink RX3 242 yX3_change ∈ zw_G := zw_mem 348 (by decide +kernel) rfl
theorem lkX3_252 : Cond.methodLink RX3 252 yX0_pointTo ∈ zw_G := zw_mem 352 (by decide +kernel) rfl
theorem lkX3_246 : Cond.methodLink RX3 246 yX3_retire ∈ zw_G := zw_mem 353 (by decide +kernel) rfl
theorem lkX3_159 : Cond.methodLink RX3 159 yX3_prepare ∈ zw_G := zw_mem 357 (by decide +kernel) rfl
theorem lkX3_249 : Cond.methodLink RX3 249 yX3_takeFreeNode ∈ zw_G := zw_mem 361 (by decide +kernel) rfl
theorem lkX3_162 : Cond.methodLink RX3 162 yX3_link ∈ zw_G := zw_mem 365 (by decide +kernel) rfl
theorem lkX3_165 : Cond.methodLink RX3 165 yX3_setBucket ∈ zw_G := zw_mem 369 (by decide +kernel) rfl
theorem lkX3_266 : Cond.methodLink RX3 266 yX1_dropTop ∈ zw_G := zw_mem 373 (by decide +kernel) rfl
theorem lkX1_23 : Cond.methodLink RX1 23 yX1_cutTo ∈ zw_G := zw_mem 377 (by decide +kernel) rfl
theorem lkX3_168 : Cond.methodLink RX3 168 yX3_mark ∈ zw_G := zw_mem 378 (by decide +kernel) rfl
theorem lkX3_171 : Cond.methodLink RX3 171 yX3_unlinkRemoved ∈ zw_G := zw_mem 382 (by decide +kernel) rfl
theorem lkX3_174 : Cond.methodLink RX3 174 yX3_giveBack ∈ zw_G := zw_mem 386 (by decide +kernel) rfl
theorem lkX3_272 : Cond.methodLink RX3 272 yX1_at ∈ zw_G := zw_mem 390 (by decide +kernel) rfl
theorem lkX3_275 : Cond.methodLink RX3 275 yX3_canBeReached ∈ zw_G := zw_mem 391 (by decide +kernel) rfl
theorem lkX3_279 : Cond.methodLink RX3 279 yX1_put ∈ zw_G := zw_mem 395 (by decide +kernel) rfl
theorem lkX3_177 : Cond.methodLink RX3 177 yX3_grow ∈ zw_G := zw_mem 399 (by decide +kernel) rfl
theorem lkX3_138 : Cond.methodLink RX3 138 yX3_countNodes ∈ zw_G := zw_mem 415 (by decide +kernel) rfl
set_option maxRecDepth 20000 in
theorem pk_X0_pointTo : zw_Vt yX0_pointTo cX0_pointTo 3 none 2 := ⟨zw_mem 207 (by decide +kernel) rfl, zw_mem 208 (by decide +kernel) rfl, zw_mem 41 (by decide +kernel) rfl, zw_mem 209 rfl rfl, by decide +kernel⟩
set_option maxRecDepth 20000 in
theorem pk_X0_appear : zw_Vt yX0_appear cX0_appear 5 none 4 := ⟨zw_mem 203 (by decide +kernel) rfl, zw_mem 204 (by decide +kernel) rfl, zw_mem 41 (by decide +kernel) rfl, zw_mem 205 rfl rfl, by decide +kernel⟩
set_option maxRecDepth 20000 in
theorem pk_X1_isEmpty : zw_Vt yX1_isEmpty cX1_isEmpty 1 (some .boolean) 0 := ⟨zw_mem 302 (by decide +kernel) rfl, zw_mem 303 (by decide +kernel) rfl, zw_mem 43 (by decide +kernel) rfl, zw_mem 304 rfl rfl, by decide +kernel⟩
set_option maxRecDepth 20000 in
theorem pk_X1_add : zw_Vt yX1_add cX1_add 2 none 1 := ⟨zw_mem 272 (by decide +kernel) rfl, zw_mem 273 (by decide +kernel) rfl, zw_mem 43 (by decide +kernel) rfl, zw_mem 274 rfl rfl, by decide +kernel⟩
set_option maxRecDepth 20000 in
theorem pk_X1_at : zw_Vt yX1_at cX1_at 2 (some .int) 1 := ⟨zw_mem 341 (by decide +kernel) rfl, zw_mem 342 (by decide +kernel) rfl, zw_mem 43 (by decide +kernel) rfl, zw_mem 343 rfl rfl, by decide +kernel⟩
set_option maxRecDepth 20000 in
theorem pk_X1_put : zw_Vt yX1_put cX1_put 3 none 2 := ⟨zw_mem 396 (by decide +kernel) rfl, zw_mem 397 (by decide +kernel) rfl, zw_mem 43 (by decide +kernel) rfl, zw_mem 398 rfl rfl, by decide +kernel⟩
set_option maxRecDepth 20000 in
theorem pk_X1_top : zw_Vt yX1_top cX1_top 1 (some .int) 0 := ⟨zw_mem 337 (by decide +kernel) rfl, zw_mem 338 (by decide +kernel) rfl, zw_mem 43 (by decide +kernel) rfl, zw_mem 339 rfl rfl, by decide +kernel⟩
set_option maxRecDepth 20000 in
theorem pk_X1_cutTo : zw_Vt yX1_cutTo cX1_cutTo 2 none 1 := ⟨zw_mem 257 (by decide +kernel) rfl, zw_mem 258 (by decide +kernel) rfl, zw_mem 43 (by decide +kernel) rfl, zw_mem 259 rfl rfl, by decide +kernel⟩
set_option maxRecDepth 20000 in
theorem pk_X1_dropTop : zw_Vt yX1_dropTop cX1_dropTop 1 none 0 := ⟨zw_mem 374 (by decide +kernel) rfl, zw_mem 375 (by decide +kernel) rfl, zw_mem 43 (by decide +kernel) rfl, zw_mem 376 rfl rfl, by decide +kernel⟩
set_option maxRecDepth 20000 in
theorem pk_X2_begin : zw_Vt yX2_begin cX2_begin 4 none 3 := ⟨zw_mem 238 (by decide +kernel) rfl, zw_mem 239 (by decide +kernel) rfl, zw_mem 42 (by decide +kernel) rfl, zw_mem 240 rfl rfl, by decide +kernel⟩
set_option maxRecDepth 20000 in
theorem pk_X2_rest : zw_Vt yX2_rest cX2_rest 2 none 1 := ⟨zw_mem 318 (by decide +kernel) rfl, zw_mem 319 (by decide +kernel) rfl, zw_mem 42 (by decide +kernel) rfl, zw_mem 320 rfl rfl, by decide +kernel⟩
set_option maxRecDepth 20000 in
theorem pk_X3_isProcess : zw_St yX3_isProcess cX3_isProcess 1 (some .boolean) 1 := ⟨zw_mem 234 (by decide +kernel) rfl, zw_mem 40 (by decide +kernel) rfl, zw_mem 235 rfl rfl, by decide +kernel⟩
set_option maxRecDepth 20000 in
theorem pk_X3_isNode : zw_St yX3_isNode cX3_isNode 1 (some .boolean) 1 := ⟨zw_mem 291 (by decide +kernel) rfl, zw_mem 40 (by decide +kernel) rfl, zw_mem 292 rfl rfl, by decide +kernel⟩
set_option maxRecDepth 20000 in
theorem pk_X3_isBucket : zw_St yX3_isBucket cX3_isBucket 1 (some .boolean) 1 := ⟨zw_mem 269 (by decide +kernel) rfl, zw_mem 40 (by decide +kernel) rfl, zw_mem 270 rfl rfl, by decide +kernel⟩
set_option maxRecDepth 20000 in
theorem pk_X3_hashOf : zw_St yX3_hashOf cX3_hashOf 1 (some .int) 1 := ⟨zw_mem 254 (by decide +kernel) rfl, zw_mem 40 (by decide +kernel) rfl, zw_mem 255 rfl rfl, by decide +kernel⟩
set_option maxRecDepth 20000 in
theorem pk_X3_turned : zw_St yX3_turned cX3_turned 3 (some .int) 1 := ⟨zw_mem 200 (by decide +kernel) rfl, zw_mem 40 (by decide +kernel) rfl, zw_mem 201 rfl rfl, by decide +kernel⟩
set_option maxRecDepth 20000 in
theorem pk_X3_orderOfKey : zw_St yX3_orderOfKey cX3_orderOfKey 1 (some .int) 1 := ⟨zw_mem 334 (by decide +kernel) rfl, zw_mem 40 (by decide +kernel) rfl, zw_mem 335 rfl rfl, by decide +kernel⟩
set_option maxRecDepth 20000 in
theorem pk_X3_orderOfBucket : zw_St yX3_orderOfBucket cX3_orderOfBucket 1 (some .int) 1 := ⟨zw_mem 197 (by decide +kernel) rfl, zw_mem 40 (by decide +kernel) rfl, zw_mem 198 rfl rfl, by decide +kernel⟩
set_option maxRecDepth 20000 in
theorem pk_X3_wantedOrder : zw_St yX3_wantedOrder cX3_wantedOrder 1 (some .int) 1 := ⟨zw_mem 331 (by decide +kernel) rfl, zw_mem 40 (by decide +kernel) rfl, zw_mem 332 rfl rfl, by decide +kernel⟩
set_option maxRecDepth 20000 in
theorem pk_X3_parentOf : zw_St yX3_parentOf cX3_parentOf 2 (some .int) 1 := ⟨zw_mem 276 (by decide +kernel) rfl, zw_mem 40 (by decide +kernel) rfl, zw_mem 277 rfl rfl, by decide +kernel⟩
set_option maxRecDepth 20000 in
theorem pk_X3_nextOf : zw_Vt yX3_nextOf cX3_nextOf 2 (some .int) 1 := ⟨zw_mem 288 (by decide +kernel) rfl, zw_mem 6 (by decide +kernel) rfl, zw_mem 40 (by decide +kernel) rfl, zw_mem 289 rfl rfl, by decide +kernel⟩
set_option maxRecDepth 20000 in
theorem pk_X3_valueOf : zw_Vt yX3_valueOf cX3_valueOf 2 (some .int) 1 := ⟨zw_mem 307 (by decide +kernel) rfl, zw_mem 9 (by decide +kernel) rfl, zw_mem 40 (by decide +kernel) rfl, zw_mem 308 rfl rfl, by decide +kernel⟩
set_option maxRecDepth 20000 in
theorem pk_X3_nodeOfBucket : zw_Vt yX3_nodeOfBucket cX3_nodeOfBucket 2 (some .int) 1 := ⟨zw_mem 266 (by decide +kernel) rfl, zw_mem 3 (by decide +kernel) rfl, zw_mem 40 (by decide +kernel) rfl, zw_mem 267 rfl rfl, by decide +kernel⟩
set_option maxRecDepth 20000 in
theorem pk_X3_mayLoad : zw_Vt yX3_mayLoad cX3_mayLoad 2 (some .boolean) 1 := ⟨zw_mem 284 (by decide +kernel) rfl, zw_mem 5 (by decide +kernel) rfl, zw_mem 40 (by decide +kernel) rfl, zw_mem 285 rfl rfl, by decide +kernel⟩
set_option maxRecDepth 20000 in
theorem pk_X3_leadsTo : zw_Vt yX3_leadsTo cX3_leadsTo 3 (some .boolean) 2 := ⟨zw_mem 328 (by decide +kernel) rfl, zw_mem 13 (by decide +kernel) rfl, zw_mem 40 (by decide +kernel) rfl, zw_mem 329 rfl rfl, by decide +kernel⟩
set_option maxRecDepth 20000 in
theorem pk_X3_change : zw_Vt yX3_change cX3_change 5 (some .boolean) 4 := ⟨zw_mem 350 (by decide +kernel) rfl, zw_mem 15 (by decide +kernel) rfl, zw_mem 40 (by decide +kernel) rfl, zw_mem 351 rfl rfl, by decide +kernel⟩
set_option maxRecDepth 20000 in
theorem pk_X3_retire : zw_Vt yX3_retire cX3_retire 3 none 2 := ⟨zw_mem 355 (by decide +kernel) rfl, zw_mem 16 (by decide +kernel) rfl, zw_mem 40 (by decide +kernel) rfl, zw_mem 356 rfl rfl, by decide +kernel⟩
set_option maxRecDepth 20000 in
theorem pk_X3_freeOwn : zw_Vt yX3_freeOwn cX3_freeOwn 2 none 1 := ⟨zw_mem 315 (by decide +kernel) rfl, zw_mem 11 (by decide +kernel) rfl, zw_mem 40 (by decide +kernel) rfl, zw_mem 316 rfl rfl, by decide +kernel⟩
set_option maxRecDepth 20000 in
theorem pk_X3_end : zw_Vt yX3_end cX3_end 3 none 2 := ⟨zw_mem 311 (by decide +kernel) rfl, zw_mem 10 (by decide +kernel) rfl, zw_mem 40 (by decide +kernel) rfl, zw_mem 312 rfl rfl, by decide +kernel⟩
set_option maxRecDepth 20000 in
theorem pk_X3_canBeReached : zw_Vt yX3_canBeReached cX3_canBeReached 4 (some .boolean) 1 := ⟨zw_mem 393 (by decide +kernel) rfl, zw_mem 24 (by decide +kernel) rfl, zw_mem 40 (by decide +kernel) rfl, zw_mem 394 rfl rfl, by decide +kernel⟩
set_option maxRecDepth 20000 in
theorem pk_X3_countNodes : zw_Vt yX3_countNodes cX3_countNodes 4 (some .int) 1 := ⟨zw_mem 417 (by decide +kernel) rfl, zw_mem 26 (by decide +kernel) rfl, zw_mem 40 (by decide +kernel) rfl, zw_mem 418 rfl rfl, by decide +kernel⟩
set_option maxRecDepth 20000 in
theorem pk_X3_takeFreeNode : zw_Vt yX3_takeFreeNode cX3_takeFreeNode 4 (some .int) 1 := ⟨zw_mem 363 (by decide +kernel) rfl, zw_mem 18 (by decide +kernel) rfl, zw_mem 40 (by decide +kernel) rfl, zw_mem 364 rfl rfl, by decide +kernel⟩
set_option maxRecDepth 20000 in
theorem pk_X3_enter : zw_Vt yX3_enter cX3_enter 2 none 1 := ⟨zw_mem 251 (by decide +kernel) rfl, zw_mem 1 (by decide +kernel) rfl, zw_mem 40 (by decide +kernel) rfl, zw_mem 252 rfl rfl, by decide +kernel⟩
set_option maxRecDepth 20000 in
theorem pk_X3_seekBucket : zw_Vt yX3_seekBucket cX3_seekBucket 3 none 1 := ⟨zw_mem 262 (by decide +kernel) rfl, zw_mem 2 (by decide +kernel) rfl, zw_mem 40 (by decide +kernel) rfl, zw_mem 263 rfl rfl, by decide +kernel⟩
set_option maxRecDepth 20000 in
theorem pk_X3_loadStart : zw_Vt yX3_loadStart cX3_loadStart 2 none 1 := ⟨zw_mem 280 (by decide +kernel) rfl, zw_mem 4 (by decide +kernel) rfl, zw_mem 40 (by decide +kernel) rfl, zw_mem 281 rfl rfl, by decide +kernel⟩
set_option maxRecDepth 20000 in
theorem pk_X3_searchOver : zw_Vt yX3_searchOver cX3_searchOver 3 none 2 := ⟨zw_mem 299 (by decide +kernel) rfl, zw_mem 8 (by decide +kernel) rfl, zw_mem 40 (by decide +kernel) rfl, zw_mem 300 rfl rfl, by decide +kernel⟩
set_option maxRecDepth 20000 in
theorem pk_X3_loadCur : zw_Vt yX3_loadCur cX3_loadCur 2 none 1 := ⟨zw_mem 295 (by decide +kernel) rfl, zw_mem 7 (by decide +kernel) rfl, zw_mem 40 (by decide +kernel) rfl, zw_mem 296 rfl rfl, by decide +kernel⟩
set_option maxRecDepth 20000 in
theorem pk_X3_compare : zw_Vt yX3_compare cX3_compare 4 none 1 := ⟨zw_mem 324 (by decide +kernel) rfl, zw_mem 12 (by decide +kernel) rfl, zw_mem 40 (by decide +kernel) rfl, zw_mem 325 rfl rfl, by decide +kernel⟩
set_option maxRecDepth 20000 in
theorem pk_X3_unlinkMarked : zw_Vt yX3_unlinkMarked cX3_unlinkMarked 2 none 1 := ⟨zw_mem 346 (by decide +kernel) rfl, zw_mem 14 (by decide +kernel) rfl, zw_mem 40 (by decide +kernel) rfl, zw_mem 347 rfl rfl, by decide +kernel⟩
set_option maxRecDepth 20000 in
theorem pk_X3_prepare : zw_Vt yX3_prepare cX3_prepare 2 none 1 := ⟨zw_mem 359 (by decide +kernel) rfl, zw_mem 17 (by decide +kernel) rfl, zw_mem 40 (by decide +kernel) rfl, zw_mem 360 rfl rfl, by decide +kernel⟩
set_option maxRecDepth 20000 in
theorem pk_X3_link : zw_Vt yX3_link cX3_link 3 none 1 := ⟨zw_mem 367 (by decide +kernel) rfl, zw_mem 19 (by decide +kernel) rfl, zw_mem 40 (by decide +kernel) rfl, zw_mem 368 rfl rfl, by decide +kernel⟩
set_option maxRecDepth 20000 in
theorem pk_X3_setBucket : zw_Vt yX3_setBucket cX3_setBucket 3 none 1 := ⟨zw_mem 371 (by decide +kernel) rfl, zw_mem 20 (by decide +kernel) rfl, zw_mem 40 (by decide +kernel) rfl, zw_mem 372 rfl rfl, by decide +kernel⟩
set_option maxRecDepth 20000 in
theorem pk_X3_mark : zw_Vt yX3_mark cX3_mark 2 none 1 := ⟨zw_mem 380 (by decide +kernel) rfl, zw_mem 21 (by decide +kernel) rfl, zw_mem 40 (by decide +kernel) rfl, zw_mem 381 rfl rfl, by decide +kernel⟩
set_option maxRecDepth 20000 in
theorem pk_X3_unlinkRemoved : zw_Vt yX3_unlinkRemoved cX3_unlinkRemoved 2 none 1 := ⟨zw_mem 384 (by decide +kernel) rfl, zw_mem 22 (by decide +kernel) rfl, zw_mem 40 (by decide +kernel) rfl, zw_mem 385 rfl rfl, by decide +kernel⟩
set_option maxRecDepth 20000 in
theorem pk_X3_giveBack : zw_Vt yX3_giveBack cX3_giveBack 5 none 1 := ⟨zw_mem 388 (by decide +kernel) rfl, zw_mem 23 (by decide +kernel) rfl, zw_mem 40 (by decide +kernel) rfl, zw_mem 389 rfl rfl, by decide +kernel⟩
set_option maxRecDepth 20000 in
theorem pk_X3_grow : zw_Vt yX3_grow cX3_grow 2 none 1 := ⟨zw_mem 401 (by decide +kernel) rfl, zw_mem 25 (by decide +kernel) rfl, zw_mem 40 (by decide +kernel) rfl, zw_mem 402 rfl rfl, by decide +kernel⟩
set_option maxRecDepth 20000 in
theorem pk_X3_advance : zw_Vt yX3_advance cX3_advance 2 none 1 := ⟨zw_mem 247 (by decide +kernel) rfl, zw_mem 0 (by decide +kernel) rfl, zw_mem 40 (by decide +kernel) rfl, zw_mem 248 rfl rfl, by decide +kernel⟩
set_option maxRecDepth 20000 in
theorem pk_X3_start : zw_Vt yX3_start cX3_start 6 (some .boolean) 4 := ⟨zw_mem 230 (by decide +kernel) rfl, zw_mem 231 (by decide +kernel) rfl, zw_mem 40 (by decide +kernel) rfl, zw_mem 232 rfl rfl, by decide +kernel⟩
set_option maxRecDepth 20000 in
theorem pk_X3_step : zw_Vt yX3_step cX3_step 3 (some .int) 1 := ⟨zw_mem 242 (by decide +kernel) rfl, zw_mem 243 (by decide +kernel) rfl, zw_mem 40 (by decide +kernel) rfl, zw_mem 244 rfl rfl, by decide +kernel⟩
set_option maxRecDepth 20000 in
theorem pk_X3_run : zw_Vt yX3_run cX3_run 5 (some .int) 2 := ⟨zw_mem 404 (by decide +kernel) rfl, zw_mem 405 (by decide +kernel) rfl, zw_mem 40 (by decide +kernel) rfl, zw_mem 406 rfl rfl, by decide +kernel⟩
set_option maxRecDepth 20000 in
theorem pk_X3_bucket : zw_Vt yX3_bucket cX3_bucket 2 (some .int) 1 := ⟨zw_mem 408 (by decide +kernel) rfl, zw_mem 409 (by decide +kernel) rfl, zw_mem 40 (by decide +kernel) rfl, zw_mem 410 rfl rfl, by decide +kernel⟩
set_option maxRecDepth 20000 in
theorem pk_X3_total : zw_Vt yX3_total cX3_total 2 (some .int) 1 := ⟨zw_mem 412 (by decide +kernel) rfl, zw_mem 413 (by decide +kernel) rfl, zw_mem 40 (by decide +kernel) rfl, zw_mem 414 rfl rfl, by decide +kernel⟩
set_option maxRecDepth 20000 in
theorem pk_X3_result : zw_Vt yX3_result cX3_result 2 (some .int) 1 := ⟨zw_mem 424 (by decide +kernel) rfl, zw_mem 425 (by decide +kernel) rfl, zw_mem 40 (by decide +kernel) rfl, zw_mem 426 rfl rfl, by decide +kernel⟩
set_option maxRecDepth 20000 in
theorem pk_X3_process : zw_Vt yX3_process cX3_process 4 (some .int) 2 := ⟨zw_mem 497 (by decide +kernel) rfl, zw_mem 498 (by decide +kernel) rfl, zw_mem 40 (by decide +kernel) rfl, zw_mem 499 rfl rfl, by decide +kernel⟩
set_option maxRecDepth 20000 in
theorem pk_X3_node : zw_Vt yX3_node cX3_node 4 (some .int) 2 := ⟨zw_mem 505 (by decide +kernel) rfl, zw_mem 506 (by decide +kernel) rfl, zw_mem 40 (by decide +kernel) rfl, zw_mem 507 rfl rfl, by decide +kernel⟩
end
section
def fn_X0_pointTo (σ : zs_T) (k0 : Nat) (x1 : Int32) (x2 : Int32) : zs_O := ((zs_u (zs_u σ 2 k0 x1) 3 k0 x2), 0)
def ok_X0_pointTo (σ : zs_T) (k0 : Nat) (x1 : Int32) (x2 : Int32) : Prop := zs_B x2 ∧ (True)
set_option maxHeartbeats 4000000 in
set_option maxRecDepth 100000 in
theorem m_X0_pointTo {l : Launch} {D : va_G} {cI cN cW : ClassId} {ad : Nat → Nat} (hJ : zs_J 88 ad) (d : Nat) (σ : zs_T) (k0 : Nat) (x1 : Int32) (x2 : Int32) (hk0 : k0 < 64) (hok : ok_X0_pointTo σ k0 x1 x2) : zs_M l D vwCl (tysC cI cN cW) 88 ad (wC cI cN cW ad) yX0_pointTo (Cond.code yX0_pointTo cX0_pointTo 3 none :: zw_G) (zw_rm (d)) [.ref (ad (4 + k0)), .int x1, .int x2] zs_vv σ (fn_X0_pointTo σ k0 x1 x2) := by
  refine zs_ofZ (cc := cX0_pointTo) (nL := 3) (ret := none) (lv0 := [(0, .ref (ad (4 + k0))), (1, .int x1), (2, .int x2)]) (by decide) rfl hJ (Nat.le_of_ble_eq_true rfl) rfl ?_
  intro p e s m args below meth c C hr
  unfold ok_X0_pointTo at hok
  unfold fn_X0_pointTo
  refine zs_aload_n (k := 0) C dX0_pointTo_0 rfl rfl ?_
  refine zs_iload_n (k := 1) C dX0_pointTo_1 rfl rfl ?_
  refine pC_Node_next C hk0 lkX0_18 dX0_pointTo_2 ?_
  refine zs_aload_n (k := 0) C dX0_pointTo_5 rfl rfl ?_
  refine zs_iload_n (k := 2) C dX0_pointTo_6 rfl rfl ?_
  obtain ⟨h_1, hok⟩ := hok
  refine pC_Node_marked C hk0 lkX0_21 h_1 dX0_pointTo_7 ?_
  exact zs_vret C hr dX0_pointTo_10

def fn_X0_appear (σ : zs_T) (k0 : Nat) (x1 : Int32) (x2 : Int32) (x3 : Int32) (x4 : Int32) : zs_O := ((fn_X0_pointTo (zs_u (zs_u (zs_u (zs_u (zs_u (zs_u σ 0 k0 1) 1 k0 x1) 4 k0 x2) 5 k0 x3) 6 k0 x4) 7 k0 0) k0 (-1) 0).1, 0)
def ok_X0_appear (σ : zs_T) (k0 : Nat) (x1 : Int32) (x2 : Int32) (x3 : Int32) (x4 : Int32) : Prop := ok_X0_pointTo (zs_u (zs_u (zs_u (zs_u (zs_u (zs_u σ 0 k0 1) 1 k0 x1) 4 k0 x2) 5 k0 x3) 6 k0 x4) 7 k0 0) k0 (-1) 0 ∧ (True)
set_option maxHeartbeats 4000000 in
set_option maxRecDepth 100000 in
theorem m_X0_appear {l : Launch} {D : va_G} {cI cN cW : ClassId} {ad : Nat → Nat} (hJ : zs_J 88 ad) (d : Nat) (σ : zs_T) (k0 : Nat) (x1 : Int32) (x2 : Int32) (x3 : Int32) (x4 : Int32) (hk0 : k0 < 64) (hok : ok_X0_appear σ k0 x1 x2 x3 x4) : zs_M l D vwCl (tysC cI cN cW) 88 ad (wC cI cN cW ad) yX0_appear (Cond.code yX0_appear cX0_appear 5 none :: zw_G) (zw_rm (d + 1)) [.ref (ad (4 + k0)), .int x1, .int x2, .int x3, .int x4] zs_vv σ (fn_X0_appear σ k0 x1 x2 x3 x4) := by
  refine zs_ofZ (cc := cX0_appear) (nL := 5) (ret := none) (lv0 := [(0, .ref (ad (4 + k0))), (1, .int x1), (2, .int x2), (3, .int x3), (4, .int x4)]) (by decide) rfl hJ (Nat.le_of_ble_eq_true rfl) rfl ?_
  intro p e s m args below meth c C hr
  unfold ok_X0_appear at hok
  unfold fn_X0_appear
  refine zs_aload_n (k := 0) C dX0_appear_0 rfl rfl ?_
  refine zs_iconst (v := 1) C dX0_appear_1 (by decide) ?_
  refine pC_Node_state C hk0 lkX0_9 dX0_appear_2 ?_
  refine zs_aload_n (k := 0) C dX0_appear_5 rfl rfl ?_
  refine zs_iload_n (k := 1) C dX0_appear_6 rfl rfl ?_
  refine pC_Node_order C hk0 lkX0_15 dX0_appear_7 ?_
  refine zs_aload_n (k := 0) C dX0_appear_10 rfl rfl ?_
  refine zs_iload_n (k := 2) C dX0_appear_11 rfl rfl ?_
  refine pC_Node_key C hk0 lkX0_25 dX0_appear_12 ?_
  refine zs_aload_n (k := 0) C dX0_appear_15 rfl rfl ?_
  refine zs_iload_n (k := 3) C dX0_appear_16 rfl rfl ?_
  refine pC_Node_value C hk0 lkX0_28 dX0_appear_17 ?_
  refine zs_aload_n (k := 0) C dX0_appear_20 rfl rfl ?_
  refine zs_iload (k := 4) C dX0_appear_21 rfl ?_
  refine pC_Node_born C hk0 lkX0_31 dX0_appear_23 ?_
  refine zs_aload_n (k := 0) C dX0_appear_26 rfl rfl ?_
  refine zs_iconst (v := 0) C dX0_appear_27 (by decide) ?_
  refine pC_Node_died C hk0 lkX0_34 dX0_appear_28 ?_
  refine zs_aload_n (k := 0) C dX0_appear_31 rfl rfl ?_
  refine zs_iconst (v := (-1)) C dX0_appear_32 (by decide) ?_
  refine zs_iconst (v := 0) C dX0_appear_33 (by decide) ?_
  obtain ⟨h_1, hok⟩ := hok
  refine zk_callVv (As := [.int (-1), .int 0]) (rest := []) C pk_X0_pointTo (by decide) lkX0_37 (m_X0_pointTo hJ d (zs_u (zs_u (zs_u (zs_u (zs_u (zs_u σ 0 k0 1) 1 k0 x1) 4 k0 x2) 5 k0 x3) 6 k0 x4) 7 k0 0) k0 (-1) 0 hk0 h_1) (zc_recvNode hk0) rfl rfl rfl (Nat.le_of_ble_eq_true rfl) dX0_appear_34 ?_
  exact zs_vret C hr dX0_appear_37

def fr_X1_isEmpty (σ : zs_T) (t0 : Nat) : Int32 := (if σ 30 t0 = 0 then 1 else 0)
set_option maxHeartbeats 4000000 in
set_option maxRecDepth 100000 in
theorem m_X1_isEmpty {l : Launch} {D : va_G} {cI cN cW : ClassId} {ad : Nat → Nat} (hJ : zs_J 88 ad) (d : Nat) (σ : zs_T) (t0 : Nat) (ht0 : t0 < 8) : zs_M l D vwCl (tysC cI cN cW) 88 ad (wC cI cN cW ad) yX1_isEmpty (Cond.code yX1_isEmpty cX1_isEmpty 1 (some .boolean) :: zw_G) (zw_rm (d)) [.ref (ad (72 + t0))] zs_vi σ (σ, fr_X1_isEmpty σ t0) := by
  refine zs_ofZ (cc := cX1_isEmpty) (nL := 1) (ret := (some .boolean)) (lv0 := [(0, .ref (ad (72 + t0)))]) (by decide) rfl hJ (Nat.le_of_ble_eq_true rfl) rfl ?_
  intro p e s m args below meth c C hr
  unfold fr_X1_isEmpty
  refine zs_aload_n (k := 0) C dX1_isEmpty_0 rfl rfl ?_
  refine gC_Num_length C ht0 lkX1_9 dX1_isEmpty_1 ?_
  refine zs_if_neP (tgt := 11) C dX1_isEmpty_4 (by decide) (fun c_1 => ?_) (fun c_1 => ?_)
  · refine zs_iconst (v := 1) C dX1_isEmpty_7 (by decide) ?_
    refine zs_goto (tgt := 12) C dX1_isEmpty_8 (by decide) ?_
    exact zs_zret C hr rfl dX1_isEmpty_12
  · refine zs_iconst (v := 0) C dX1_isEmpty_11 (by decide) ?_
    exact zs_zret C hr rfl dX1_isEmpty_12

def fn_X1_add (σ : zs_T) (t0 : Nat) (x1 : Int32) : zs_O := (if σ 30 t0 < Int32.ofNat (zc_len t0) then ((zs_u (zs_u σ (40 + t0) ((σ 30 t0).toNatClampNeg) x1) 30 t0 (((zs_u σ (40 + t0) ((σ 30 t0).toNatClampNeg) x1) 30 t0) + 1)), 0) else (σ, 0))
def ok_X1_add (σ : zs_T) (t0 : Nat) (x1 : Int32) : Prop := (σ 30 t0 < Int32.ofNat (zc_len t0) → vp_in (σ 30 t0) (zc_len t0) ∧ (True)) ∧ (¬ (σ 30 t0 < Int32.ofNat (zc_len t0)) → True)
set_option maxHeartbeats 4000000 in
set_option maxRecDepth 100000 in
theorem m_X1_add {l : Launch} {D : va_G} {cI cN cW : ClassId} {ad : Nat → Nat} (hJ : zs_J 88 ad) (d : Nat) (σ : zs_T) (t0 : Nat) (x1 : Int32) (ht0 : t0 < 8) (hok : ok_X1_add σ t0 x1) : zs_M l D vwCl (tysC cI cN cW) 88 ad (wC cI cN cW ad) yX1_add (Cond.code yX1_add cX1_add 2 none :: zw_G) (zw_rm (d)) [.ref (ad (72 + t0)), .int x1] zs_vv σ (fn_X1_add σ t0 x1) := by
  refine zs_ofZ (cc := cX1_add) (nL := 2) (ret := none) (lv0 := [(0, .ref (ad (72 + t0))), (1, .int x1)]) (by decide) rfl hJ (Nat.le_of_ble_eq_true rfl) rfl ?_
  intro p e s m args below meth c C hr
  unfold ok_X1_add at hok
  unfold fn_X1_add
  refine zs_aload_n (k := 0) C dX1_add_0 rfl rfl ?_
  refine gC_Num_length C ht0 lkX1_9 dX1_add_1 ?_
  refine zs_aload_n (k := 0) C dX1_add_4 rfl rfl ?_
  refine gC_Num_items C ht0 lkX1_15 dX1_add_5 ?_
  refine lC_items C ht0 dX1_add_8 ?_
  refine zs_icmp_ge (tgt := 32) C dX1_add_9 (by decide) (fun c_1 => ?_) (fun c_1 => ?_)
  · have hok := hok.1 c_1
    refine zs_aload_n (k := 0) C dX1_add_12 rfl rfl ?_
    refine gC_Num_items C ht0 lkX1_15 dX1_add_13 ?_
    refine zs_aload_n (k := 0) C dX1_add_16 rfl rfl ?_
    refine gC_Num_length C ht0 lkX1_9 dX1_add_17 ?_
    refine zs_iload_n (k := 1) C dX1_add_20 rfl rfl ?_
    obtain ⟨h_2, hok⟩ := hok
    refine sC_items C ht0 h_2 dX1_add_21 ?_
    refine zs_aload_n (k := 0) C dX1_add_22 rfl rfl ?_
    refine zs_dup C dX1_add_23 rfl ?_
    refine gC_Num_length C ht0 lkX1_9 dX1_add_24 ?_
    refine zs_iconst (v := 1) C dX1_add_27 (by decide) ?_
    refine zs_iadd C dX1_add_28 ?_
    refine pC_Num_length C ht0 lkX1_9 dX1_add_29 ?_
    exact zs_vret C hr dX1_add_32
  · have hok := hok.2 c_1
    exact zs_vret C hr dX1_add_32

def fr_X1_at (σ : zs_T) (t0 : Nat) (x1 : Int32) : Int32 := (if x1 < 0 then (-1) else (if x1 < σ 30 t0 then σ (40 + t0) (x1.toNatClampNeg) else (-1)))
def ok_X1_at (σ : zs_T) (t0 : Nat) (x1 : Int32) : Prop := (x1 < 0 → True) ∧ (¬ (x1 < 0) → (x1 < σ 30 t0 → vp_in x1 (zc_len t0) ∧ (True)) ∧ (¬ (x1 < σ 30 t0) → True))
set_option maxHeartbeats 4000000 in
set_option maxRecDepth 100000 in
theorem m_X1_at {l : Launch} {D : va_G} {cI cN cW : ClassId} {ad : Nat → Nat} (hJ : zs_J 88 ad) (d : Nat) (σ : zs_T) (t0 : Nat) (x1 : Int32) (ht0 : t0 < 8) (hok : ok_X1_at σ t0 x1) : zs_M l D vwCl (tysC cI cN cW) 88 ad (wC cI cN cW ad) yX1_at (Cond.code yX1_at cX1_at 2 (some .int) :: zw_G) (zw_rm (d)) [.ref (ad (72 + t0)), .int x1] zs_vi σ (σ, fr_X1_at σ t0 x1) := by
  refine zs_ofZ (cc := cX1_at) (nL := 2) (ret := (some .int)) (lv0 := [(0, .ref (ad (72 + t0))), (1, .int x1)]) (by decide) rfl hJ (Nat.le_of_ble_eq_true rfl) rfl ?_
  intro p e s m args below meth c C hr
  unfold ok_X1_at at hok
  unfold fr_X1_at
  refine zs_iload_n (k := 1) C dX1_at_0 rfl rfl ?_
  refine zs_if_ltP (tgt := 21) C dX1_at_1 (by decide) (fun c_1 => ?_) (fun c_1 => ?_)
  · have hok := hok.1 c_1
    refine zs_iconst (v := (-1)) C dX1_at_21 (by decide) ?_
    exact zs_iret C hr dX1_at_22
  · have hok := hok.2 c_1
    refine zs_iload_n (k := 1) C dX1_at_4 rfl rfl ?_
    refine zs_aload_n (k := 0) C dX1_at_5 rfl rfl ?_
    refine gC_Num_length C ht0 lkX1_9 dX1_at_6 ?_
    refine zs_icmp_geP (tgt := 21) C dX1_at_9 (by decide) (fun c_2 => ?_) (fun c_2 => ?_)
    · have hok := hok.1 c_2
      refine zs_aload_n (k := 0) C dX1_at_12 rfl rfl ?_
      refine gC_Num_items C ht0 lkX1_15 dX1_at_13 ?_
      refine zs_iload_n (k := 1) C dX1_at_16 rfl rfl ?_
      obtain ⟨h_3, hok⟩ := hok
      refine aC_items C ht0 h_3 dX1_at_17 ?_
      refine zs_goto (tgt := 22) C dX1_at_18 (by decide) ?_
      exact zs_iret C hr dX1_at_22
    · have hok := hok.2 c_2
      refine zs_iconst (v := (-1)) C dX1_at_21 (by decide) ?_
      exact zs_iret C hr dX1_at_22

def fn_X1_put (σ : zs_T) (t0 : Nat) (x1 : Int32) (x2 : Int32) : zs_O := (if x1 < 0 then (σ, 0) else (if x1 < σ 30 t0 then ((zs_u σ (40 + t0) (x1.toNatClampNeg) x2), 0) else (σ, 0)))
def ok_X1_put (σ : zs_T) (t0 : Nat) (x1 : Int32) (x2 : Int32) : Prop := (x1 < 0 → True) ∧ (¬ (x1 < 0) → (x1 < σ 30 t0 → vp_in x1 (zc_len t0) ∧ (True)) ∧ (¬ (x1 < σ 30 t0) → True))
set_option maxHeartbeats 4000000 in
set_option maxRecDepth 100000 in
theorem m_X1_put {l : Launch} {D : va_G} {cI cN cW : ClassId} {ad : Nat → Nat} (hJ : zs_J 88 ad) (d : Nat) (σ : zs_T) (t0 : Nat) (x1 : Int32) (x2 : Int32) (ht0 : t0 < 8) (hok : ok_X1_put σ t0 x1 x2) : zs_M l D vwCl (tysC cI cN cW) 88 ad (wC cI cN cW ad) yX1_put (Cond.code yX1_put cX1_put 3 none :: zw_G) (zw_rm (d)) [.ref (ad (72 + t0)), .int x1, .int x2] zs_vv σ (fn_X1_put σ t0 x1 x2) := by
  refine zs_ofZ (cc := cX1_put) (nL := 3) (ret := none) (lv0 := [(0, .ref (ad (72 + t0))), (1, .int x1), (2, .int x2)]) (by decide) rfl hJ (Nat.le_of_ble_eq_true rfl) rfl ?_
  intro p e s m args below meth c C hr
  unfold ok_X1_put at hok
  unfold fn_X1_put
  refine zs_iload_n (k := 1) C dX1_put_0 rfl rfl ?_
  refine zs_if_lt (tgt := 19) C dX1_put_1 (by decide) (fun c_1 => ?_) (fun c_1 => ?_)
  · have hok := hok.1 c_1
    exact zs_vret C hr dX1_put_19
  · have hok := hok.2 c_1
    refine zs_iload_n (k := 1) C dX1_put_4 rfl rfl ?_
    refine zs_aload_n (k := 0) C dX1_put_5 rfl rfl ?_
    refine gC_Num_length C ht0 lkX1_9 dX1_put_6 ?_
    refine zs_icmp_ge (tgt := 19) C dX1_put_9 (by decide) (fun c_2 => ?_) (fun c_2 => ?_)
    · have hok := hok.1 c_2
      refine zs_aload_n (k := 0) C dX1_put_12 rfl rfl ?_
      refine gC_Num_items C ht0 lkX1_15 dX1_put_13 ?_
      refine zs_iload_n (k := 1) C dX1_put_16 rfl rfl ?_
      refine zs_iload_n (k := 2) C dX1_put_17 rfl rfl ?_
      obtain ⟨h_3, hok⟩ := hok
      refine sC_items C ht0 h_3 dX1_put_18 ?_
      exact zs_vret C hr dX1_put_19
    · have hok := hok.2 c_2
      exact zs_vret C hr dX1_put_19

def fr_X1_top (σ : zs_T) (t0 : Nat) : Int32 := fr_X1_at σ t0 ((σ 30 t0) - 1)
def ok_X1_top (σ : zs_T) (t0 : Nat) : Prop := ok_X1_at σ t0 ((σ 30 t0) - 1) ∧ (True)
set_option maxHeartbeats 4000000 in
set_option maxRecDepth 100000 in
theorem m_X1_top {l : Launch} {D : va_G} {cI cN cW : ClassId} {ad : Nat → Nat} (hJ : zs_J 88 ad) (d : Nat) (σ : zs_T) (t0 : Nat) (ht0 : t0 < 8) (hok : ok_X1_top σ t0) : zs_M l D vwCl (tysC cI cN cW) 88 ad (wC cI cN cW ad) yX1_top (Cond.code yX1_top cX1_top 1 (some .int) :: zw_G) (zw_rm (d + 1)) [.ref (ad (72 + t0))] zs_vi σ (σ, fr_X1_top σ t0) := by
  refine zs_ofZ (cc := cX1_top) (nL := 1) (ret := (some .int)) (lv0 := [(0, .ref (ad (72 + t0)))]) (by decide) rfl hJ (Nat.le_of_ble_eq_true rfl) rfl ?_
  intro p e s m args below meth c C hr
  unfold ok_X1_top at hok
  unfold fr_X1_top
  refine zs_aload_n (k := 0) C dX1_top_0 rfl rfl ?_
  refine zs_aload_n (k := 0) C dX1_top_1 rfl rfl ?_
  refine gC_Num_length C ht0 lkX1_9 dX1_top_2 ?_
  refine zs_iconst (v := 1) C dX1_top_5 (by decide) ?_
  refine zs_isub C dX1_top_6 ?_
  obtain ⟨h_1, hok⟩ := hok
  refine zk_callVi (As := [.int ((σ 30 t0) - 1)]) (rest := []) C pk_X1_at (by decide) lkX1_19 (m_X1_at hJ d σ t0 ((σ 30 t0) - 1) ht0 h_1) (zc_recvNum ht0) rfl rfl rfl (Nat.le_of_ble_eq_true rfl) dX1_top_7 ?_
  exact zs_iret C hr dX1_top_10

def fn_X1_cutTo (σ : zs_T) (t0 : Nat) (x1 : Int32) : zs_O := (if x1 < 0 then (σ, 0) else (if x1 < σ 30 t0 then ((zs_u σ 30 t0 x1), 0) else (σ, 0)))
set_option maxHeartbeats 4000000 in
set_option maxRecDepth 100000 in
theorem m_X1_cutTo {l : Launch} {D : va_G} {cI cN cW : ClassId} {ad : Nat → Nat} (hJ : zs_J 88 ad) (d : Nat) (σ : zs_T) (t0 : Nat) (x1 : Int32) (ht0 : t0 < 8) : zs_M l D vwCl (tysC cI cN cW) 88 ad (wC cI cN cW ad) yX1_cutTo (Cond.code yX1_cutTo cX1_cutTo 2 none :: zw_G) (zw_rm (d)) [.ref (ad (72 + t0)), .int x1] zs_vv σ (fn_X1_cutTo σ t0 x1) := by
  refine zs_ofZ (cc := cX1_cutTo) (nL := 2) (ret := none) (lv0 := [(0, .ref (ad (72 + t0))), (1, .int x1)]) (by decide) rfl hJ (Nat.le_of_ble_eq_true rfl) rfl ?_
  intro p e s m args below meth c C hr
  unfold fn_X1_cutTo
  refine zs_iload_n (k := 1) C dX1_cutTo_0 rfl rfl ?_
  refine zs_if_lt (tgt := 17) C dX1_cutTo_1 (by decide) (fun c_1 => ?_) (fun c_1 => ?_)
  · exact zs_vret C hr dX1_cutTo_17
  · refine zs_iload_n (k := 1) C dX1_cutTo_4 rfl rfl ?_
    refine zs_aload_n (k := 0) C dX1_cutTo_5 rfl rfl ?_
    refine gC_Num_length C ht0 lkX1_9 dX1_cutTo_6 ?_
    refine zs_icmp_ge (tgt := 17) C dX1_cutTo_9 (by decide) (fun c_2 => ?_) (fun c_2 => ?_)
    · refine zs_aload_n (k := 0) C dX1_cutTo_12 rfl rfl ?_
      refine zs_iload_n (k := 1) C dX1_cutTo_13 rfl rfl ?_
      refine pC_Num_length C ht0 lkX1_9 dX1_cutTo_14 ?_
      exact zs_vret C hr dX1_cutTo_17
    · exact zs_vret C hr dX1_cutTo_17

def fn_X1_dropTop (σ : zs_T) (t0 : Nat) : zs_O := ((fn_X1_cutTo σ t0 ((σ 30 t0) - 1)).1, 0)
set_option maxHeartbeats 4000000 in
set_option maxRecDepth 100000 in
theorem m_X1_dropTop {l : Launch} {D : va_G} {cI cN cW : ClassId} {ad : Nat → Nat} (hJ : zs_J 88 ad) (d : Nat) (σ : zs_T) (t0 : Nat) (ht0 : t0 < 8) : zs_M l D vwCl (tysC cI cN cW) 88 ad (wC cI cN cW ad) yX1_dropTop (Cond.code yX1_dropTop cX1_dropTop 1 none :: zw_G) (zw_rm (d + 1)) [.ref (ad (72 + t0))] zs_vv σ (fn_X1_dropTop σ t0) := by
  refine zs_ofZ (cc := cX1_dropTop) (nL := 1) (ret := none) (lv0 := [(0, .ref (ad (72 + t0)))]) (by decide) rfl hJ (Nat.le_of_ble_eq_true rfl) rfl ?_
  intro p e s m args below meth c C hr
  unfold fn_X1_dropTop
  refine zs_aload_n (k := 0) C dX1_dropTop_0 rfl rfl ?_
  refine zs_aload_n (k := 0) C dX1_dropTop_1 rfl rfl ?_
  refine gC_Num_length C ht0 lkX1_9 dX1_dropTop_2 ?_
  refine zs_iconst (v := 1) C dX1_dropTop_5 (by decide) ?_
  refine zs_isub C dX1_dropTop_6 ?_
  refine zk_callVv (As := [.int ((σ 30 t0) - 1)]) (rest := []) C pk_X1_cutTo (by decide) lkX1_23 (m_X1_cutTo hJ d σ t0 ((σ 30 t0) - 1) ht0) (zc_recvNum ht0) rfl rfl rfl (Nat.le_of_ble_eq_true rfl) dX1_dropTop_7 ?_
  exact zs_vret C hr dX1_dropTop_10

def fn_X2_begin (σ : zs_T) (p0 : Nat) (x1 : Int32) (x2 : Int32) (x3 : Int32) : zs_O := ((zs_u (zs_u (zs_u (zs_u (zs_u σ 11 p0 x1) 12 p0 x2) 13 p0 x3) 24 p0 0) 10 p0 1), 0)
set_option maxHeartbeats 4000000 in
set_option maxRecDepth 100000 in
theorem m_X2_begin {l : Launch} {D : va_G} {cI cN cW : ClassId} {ad : Nat → Nat} (hJ : zs_J 88 ad) (d : Nat) (σ : zs_T) (p0 : Nat) (x1 : Int32) (x2 : Int32) (x3 : Int32) (hp0 : p0 < 4) : zs_M l D vwCl (tysC cI cN cW) 88 ad (wC cI cN cW ad) yX2_begin (Cond.code yX2_begin cX2_begin 4 none :: zw_G) (zw_rm (d)) [.ref (ad (68 + p0)), .int x1, .int x2, .int x3] zs_vv σ (fn_X2_begin σ p0 x1 x2 x3) := by
  refine zs_ofZ (cc := cX2_begin) (nL := 4) (ret := none) (lv0 := [(0, .ref (ad (68 + p0))), (1, .int x1), (2, .int x2), (3, .int x3)]) (by decide) rfl hJ (Nat.le_of_ble_eq_true rfl) rfl ?_
  intro p e s m args below meth c C hr
  unfold fn_X2_begin
  refine zs_aload_n (k := 0) C dX2_begin_0 rfl rfl ?_
  refine zs_iload_n (k := 1) C dX2_begin_1 rfl rfl ?_
  refine pC_Worker_operation C hp0 lkX2_15 dX2_begin_2 ?_
  refine zs_aload_n (k := 0) C dX2_begin_5 rfl rfl ?_
  refine zs_iload_n (k := 2) C dX2_begin_6 rfl rfl ?_
  refine pC_Worker_key C hp0 lkX2_18 dX2_begin_7 ?_
  refine zs_aload_n (k := 0) C dX2_begin_10 rfl rfl ?_
  refine zs_iload_n (k := 3) C dX2_begin_11 rfl rfl ?_
  refine pC_Worker_value C hp0 lkX2_21 dX2_begin_12 ?_
  refine zs_aload_n (k := 0) C dX2_begin_15 rfl rfl ?_
  refine zs_iconst (v := 0) C dX2_begin_16 (by decide) ?_
  refine pC_Worker_cleans C hp0 lkX2_64 (Or.inl rfl) dX2_begin_17 ?_
  refine zs_aload_n (k := 0) C dX2_begin_20 rfl rfl ?_
  refine zs_iconst (v := 1) C dX2_begin_21 (by decide) ?_
  refine pC_Worker_place C hp0 lkX2_9 dX2_begin_22 ?_
  exact zs_vret C hr dX2_begin_25

def fn_X2_rest (σ : zs_T) (p0 : Nat) (x1 : Int32) : zs_O := ((zs_u (zs_u (zs_u (zs_u (fn_X1_cutTo (zs_u (zs_u (zs_u σ 26 p0 x1) 14 p0 0) 15 p0 0) p0 0).1 18 p0 (-1)) 19 p0 (-1)) 20 p0 (-1)) 10 p0 0), 0)
set_option maxHeartbeats 4000000 in
set_option maxRecDepth 100000 in
theorem m_X2_rest {l : Launch} {D : va_G} {cI cN cW : ClassId} {ad : Nat → Nat} (hJ : zs_J 88 ad) (d : Nat) (σ : zs_T) (p0 : Nat) (x1 : Int32) (hp0 : p0 < 4) : zs_M l D vwCl (tysC cI cN cW) 88 ad (wC cI cN cW ad) yX2_rest (Cond.code yX2_rest cX2_rest 2 none :: zw_G) (zw_rm (d + 1)) [.ref (ad (68 + p0)), .int x1] zs_vv σ (fn_X2_rest σ p0 x1) := by
  refine zs_ofZ (cc := cX2_rest) (nL := 2) (ret := none) (lv0 := [(0, .ref (ad (68 + p0))), (1, .int x1)]) (by decide) rfl hJ (Nat.le_of_ble_eq_true rfl) rfl ?_
  intro p e s m args below meth c C hr
  unfold fn_X2_rest
  refine zs_aload_n (k := 0) C dX2_rest_0 rfl rfl ?_
  refine zs_iload_n (k := 1) C dX2_rest_1 rfl rfl ?_
  refine pC_Worker_latest C hp0 lkX2_70 dX2_rest_2 ?_
  refine zs_aload_n (k := 0) C dX2_rest_5 rfl rfl ?_
  refine zs_iconst (v := 0) C dX2_rest_6 (by decide) ?_
  refine pC_Worker_low C hp0 lkX2_24 dX2_rest_7 ?_
  refine zs_aload_n (k := 0) C dX2_rest_10 rfl rfl ?_
  refine zs_iconst (v := 0) C dX2_rest_11 (by decide) ?_
  refine pC_Worker_high C hp0 lkX2_27 dX2_rest_12 ?_
  refine zs_aload_n (k := 0) C dX2_rest_15 rfl rfl ?_
  refine gC_Worker_stack C hp0 lkX2_38 dX2_rest_16 ?_
  refine zs_iconst (v := 0) C dX2_rest_19 (by decide) ?_
  refine zk_callVv (As := [.int 0]) (rest := []) C pk_X1_cutTo (by decide) lkX2_76 (m_X1_cutTo hJ d (zs_u (zs_u (zs_u σ 26 p0 x1) 14 p0 0) 15 p0 0) p0 0 (zc_8a hp0)) (zc_recvNum (zc_8a hp0)) rfl rfl rfl (Nat.le_of_ble_eq_true rfl) dX2_rest_20 ?_
  refine zs_aload_n (k := 0) C dX2_rest_23 rfl rfl ?_
  refine zs_iconst (v := (-1)) C dX2_rest_24 (by decide) ?_
  refine pC_Worker_prev C hp0 lkX2_45 dX2_rest_25 ?_
  refine zs_aload_n (k := 0) C dX2_rest_28 rfl rfl ?_
  refine zs_iconst (v := (-1)) C dX2_rest_29 (by decide) ?_
  refine pC_Worker_cur C hp0 lkX2_48 dX2_rest_30 ?_
  refine zs_aload_n (k := 0) C dX2_rest_33 rfl rfl ?_
  refine zs_iconst (v := (-1)) C dX2_rest_34 (by decide) ?_
  refine pC_Worker_nxt C hp0 lkX2_51 dX2_rest_35 ?_
  refine zs_aload_n (k := 0) C dX2_rest_38 rfl rfl ?_
  refine zs_iconst (v := 0) C dX2_rest_39 (by decide) ?_
  refine pC_Worker_place C hp0 lkX2_9 dX2_rest_40 ?_
  exact zs_vret C hr dX2_rest_43

def fr_X3_isProcess (σ : zs_T) (x0 : Int32) : Int32 := (if x0 < 0 then 0 else (if x0 < 4 then 1 else 0))
set_option maxHeartbeats 4000000 in
set_option maxRecDepth 100000 in
theorem m_X3_isProcess {l : Launch} {D : va_G} {cI cN cW : ClassId} {ad : Nat → Nat} (hJ : zs_J 88 ad) (d : Nat) (σ : zs_T) (x0 : Int32) : zs_M l D vwCl (tysC cI cN cW) 88 ad (wC cI cN cW ad) yX3_isProcess (Cond.code yX3_isProcess cX3_isProcess 1 (some .boolean) :: zw_G) (zw_rm (d)) [.int x0] zs_vi σ (σ, fr_X3_isProcess σ x0) := by
  refine zs_ofZ (cc := cX3_isProcess) (nL := 1) (ret := (some .boolean)) (lv0 := [(0, .int x0)]) (by decide) rfl hJ (Nat.le_of_ble_eq_true rfl) rfl ?_
  intro p e s m args below meth c C hr
  unfold fr_X3_isProcess
  refine zs_iload_n (k := 0) C dX3_isProcess_0 rfl rfl ?_
  refine zs_if_ltP (tgt := 13) C dX3_isProcess_1 (by decide) (fun c_1 => ?_) (fun c_1 => ?_)
  · refine zs_iconst (v := 0) C dX3_isProcess_13 (by decide) ?_
    exact zs_zret C hr rfl dX3_isProcess_14
  · refine zs_iload_n (k := 0) C dX3_isProcess_4 rfl rfl ?_
    refine zs_iconst (v := 4) C dX3_isProcess_5 (by decide) ?_
    refine zs_icmp_geP (tgt := 13) C dX3_isProcess_6 (by decide) (fun c_2 => ?_) (fun c_2 => ?_)
    · refine zs_iconst (v := 1) C dX3_isProcess_9 (by decide) ?_
      refine zs_goto (tgt := 14) C dX3_isProcess_10 (by decide) ?_
      exact zs_zret C hr rfl dX3_isProcess_14
    · refine zs_iconst (v := 0) C dX3_isProcess_13 (by decide) ?_
      exact zs_zret C hr rfl dX3_isProcess_14

def fr_X3_isNode (σ : zs_T) (x0 : Int32) : Int32 := (if x0 < 0 then 0 else (if x0 < 64 then 1 else 0))
set_option maxHeartbeats 4000000 in
set_option maxRecDepth 100000 in
theorem m_X3_isNode {l : Launch} {D : va_G} {cI cN cW : ClassId} {ad : Nat → Nat} (hJ : zs_J 88 ad) (d : Nat) (σ : zs_T) (x0 : Int32) : zs_M l D vwCl (tysC cI cN cW) 88 ad (wC cI cN cW ad) yX3_isNode (Cond.code yX3_isNode cX3_isNode 1 (some .boolean) :: zw_G) (zw_rm (d)) [.int x0] zs_vi σ (σ, fr_X3_isNode σ x0) := by
  refine zs_ofZ (cc := cX3_isNode) (nL := 1) (ret := (some .boolean)) (lv0 := [(0, .int x0)]) (by decide) rfl hJ (Nat.le_of_ble_eq_true rfl) rfl ?_
  intro p e s m args below meth c C hr
  unfold fr_X3_isNode
  refine zs_iload_n (k := 0) C dX3_isNode_0 rfl rfl ?_
  refine zs_if_ltP (tgt := 14) C dX3_isNode_1 (by decide) (fun c_1 => ?_) (fun c_1 => ?_)
  · refine zs_iconst (v := 0) C dX3_isNode_14 (by decide) ?_
    exact zs_zret C hr rfl dX3_isNode_15
  · refine zs_iload_n (k := 0) C dX3_isNode_4 rfl rfl ?_
    refine zs_bipush (v := 64) C dX3_isNode_5 (by decide) ?_
    refine zs_icmp_geP (tgt := 14) C dX3_isNode_7 (by decide) (fun c_2 => ?_) (fun c_2 => ?_)
    · refine zs_iconst (v := 1) C dX3_isNode_10 (by decide) ?_
      refine zs_goto (tgt := 15) C dX3_isNode_11 (by decide) ?_
      exact zs_zret C hr rfl dX3_isNode_15
    · refine zs_iconst (v := 0) C dX3_isNode_14 (by decide) ?_
      exact zs_zret C hr rfl dX3_isNode_15

def fr_X3_isBucket (σ : zs_T) (x0 : Int32) : Int32 := (if x0 < 0 then 0 else (if x0 < 16 then 1 else 0))
set_option maxHeartbeats 4000000 in
set_option maxRecDepth 100000 in
theorem m_X3_isBucket {l : Launch} {D : va_G} {cI cN cW : ClassId} {ad : Nat → Nat} (hJ : zs_J 88 ad) (d : Nat) (σ : zs_T) (x0 : Int32) : zs_M l D vwCl (tysC cI cN cW) 88 ad (wC cI cN cW ad) yX3_isBucket (Cond.code yX3_isBucket cX3_isBucket 1 (some .boolean) :: zw_G) (zw_rm (d)) [.int x0] zs_vi σ (σ, fr_X3_isBucket σ x0) := by
  refine zs_ofZ (cc := cX3_isBucket) (nL := 1) (ret := (some .boolean)) (lv0 := [(0, .int x0)]) (by decide) rfl hJ (Nat.le_of_ble_eq_true rfl) rfl ?_
  intro p e s m args below meth c C hr
  unfold fr_X3_isBucket
  refine zs_iload_n (k := 0) C dX3_isBucket_0 rfl rfl ?_
  refine zs_if_ltP (tgt := 14) C dX3_isBucket_1 (by decide) (fun c_1 => ?_) (fun c_1 => ?_)
  · refine zs_iconst (v := 0) C dX3_isBucket_14 (by decide) ?_
    exact zs_zret C hr rfl dX3_isBucket_15
  · refine zs_iload_n (k := 0) C dX3_isBucket_4 rfl rfl ?_
    refine zs_bipush (v := 16) C dX3_isBucket_5 (by decide) ?_
    refine zs_icmp_geP (tgt := 14) C dX3_isBucket_7 (by decide) (fun c_2 => ?_) (fun c_2 => ?_)
    · refine zs_iconst (v := 1) C dX3_isBucket_10 (by decide) ?_
      refine zs_goto (tgt := 15) C dX3_isBucket_11 (by decide) ?_
      exact zs_zret C hr rfl dX3_isBucket_15
    · refine zs_iconst (v := 0) C dX3_isBucket_14 (by decide) ?_
      exact zs_zret C hr rfl dX3_isBucket_15

theorem zc_inR {x : Int32} {n : Nat} {b : Int32} (hb : b.toInt = n) (h0 : ¬ x < 0) (h1 : x < b) : vp_in x n := by
  rw [vp_in_iff]
  rw [Int32.lt_iff_toInt_lt] at h0 h1
  have e0 : (0 : Int32).toInt = 0 := rfl
  omega
theorem zc_inNode {σ : zs_T} {x : Int32} (h : ¬ fr_X3_isNode σ x = 0) : vp_in x 64 := by
  unfold fr_X3_isNode at h
  by_cases h0 : x < 0
  · simp [h0] at h
  · by_cases h1 : x < 64
    · exact zc_inR rfl h0 h1
    · simp [h0, h1] at h
theorem zc_inProc {σ : zs_T} {x : Int32} (h : ¬ fr_X3_isProcess σ x = 0) : vp_in x 4 := by
  unfold fr_X3_isProcess at h
  by_cases h0 : x < 0
  · simp [h0] at h
  · by_cases h1 : x < 4
    · exact zc_inR rfl h0 h1
    · simp [h0, h1] at h
theorem zc_inBk {σ : zs_T} {x : Int32} (h : ¬ fr_X3_isBucket σ x = 0) : vp_in x 16 := by
  unfold fr_X3_isBucket at h
  by_cases h0 : x < 0
  · simp [h0] at h
  · by_cases h1 : x < 16
    · exact zc_inR rfl h0 h1
    · simp [h0, h1] at h

def fr_X3_hashOf (σ : zs_T) (x0 : Int32) : Int32 := (x0 * 167) - (x0 * 167) / 256 * 256
set_option maxHeartbeats 4000000 in
set_option maxRecDepth 100000 in
theorem m_X3_hashOf {l : Launch} {D : va_G} {cI cN cW : ClassId} {ad : Nat → Nat} (hJ : zs_J 88 ad) (d : Nat) (σ : zs_T) (x0 : Int32) : zs_M l D vwCl (tysC cI cN cW) 88 ad (wC cI cN cW ad) yX3_hashOf (Cond.code yX3_hashOf cX3_hashOf 1 (some .int) :: zw_G) (zw_rm (d)) [.int x0] zs_vi σ (σ, fr_X3_hashOf σ x0) := by
  refine zs_ofZ (cc := cX3_hashOf) (nL := 1) (ret := (some .int)) (lv0 := [(0, .int x0)]) (by decide) rfl hJ (Nat.le_of_ble_eq_true rfl) rfl ?_
  intro p e s m args below meth c C hr
  unfold fr_X3_hashOf
  refine zs_iload_n (k := 0) C dX3_hashOf_0 rfl rfl ?_
  refine zs_sipush (v := 167) C dX3_hashOf_1 (by decide) ?_
  refine zs_imul C dX3_hashOf_4 ?_
  refine zs_sipush (v := 256) C dX3_hashOf_5 (by decide) ?_
  refine zs_irem C dX3_hashOf_8 (by decide) ?_
  exact zs_iret C hr dX3_hashOf_9

def fr_X3_turned_L4 : Nat → zs_T → Int32 → Int32 → Int32 → Int32
  | 0, σ, _, _, _ => 0
  | n + 1, σ, x0, x1, x2 => (if x2 < 8 then (fr_X3_turned_L4 n σ x0 ((2 * x1) + ((x0 >>> (x2 &&& 31)) &&& 1)) (x2 + 1)) else x1)
def ok_X3_turned_L4 : Nat → zs_T → Int32 → Int32 → Int32 → Prop
  | 0, _, _, _, _ => False
  | n + 1, σ, x0, x1, x2 => (x2 < 8 → (ok_X3_turned_L4 n σ x0 ((2 * x1) + ((x0 >>> (x2 &&& 31)) &&& 1)) (x2 + 1))) ∧ (¬ (x2 < 8) → True)
set_option maxHeartbeats 4000000 in
set_option maxRecDepth 100000 in
theorem lp_X3_turned_L4 {p : Program} {l : Launch} {e : Env} {s : State} {m : MethodId} {args : Array Value} {below : List Frame} {meth : Method} {c : Code} {D : va_G} {cI cN cW : ClassId} {ad : Nat → Nat} (C : zs_C p s m args meth c cX3_turned 3 (Cond.code yX3_turned cX3_turned 3 (some .int) :: zw_G) yX3_turned.cls D vwCl (tysC cI cN cW) 88 ad) (hr : meth.sig.returnType = (some .int)) (d : Nat) : ∀ (n : Nat) (σ : zs_T) (x0 : Int32) (x1 : Int32) (x2 : Int32), ok_X3_turned_L4 n σ x0 x1 x2 → zs_Z p l e (zw_rm (d)) s m args below meth c D vwCl 88 ad (wC cI cN cW ad) 3 zs_vi (σ, fr_X3_turned_L4 n σ x0 x1 x2) σ 4 [(0, .int x0), (1, .int x1), (2, .int x2)] [] := by
  have hJ := C.2.2.1
  intro n
  induction n with
  | zero => intro σ x0 x1 x2  hok; exact hok.elim
  | succ n ih =>
    intro σ x0 x1 x2  hok
    rw [ok_X3_turned_L4] at hok
    rw [fr_X3_turned_L4]
    refine zs_iload_n (k := 2) C dX3_turned_4 rfl rfl ?_
    refine zs_bipush (v := 8) C dX3_turned_5 (by decide) ?_
    refine zs_icmp_geP (tgt := 26) C dX3_turned_7 (by decide) (fun c_1 => ?_) (fun c_1 => ?_)
    · have hok := hok.1 c_1
      refine zs_iconst (v := 2) C dX3_turned_10 (by decide) ?_
      refine zs_iload_n (k := 1) C dX3_turned_11 rfl rfl ?_
      refine zs_imul C dX3_turned_12 ?_
      refine zs_iload_n (k := 0) C dX3_turned_13 rfl rfl ?_
      refine zs_iload_n (k := 2) C dX3_turned_14 rfl rfl ?_
      refine zs_ishr C dX3_turned_15 ?_
      refine zs_iconst (v := 1) C dX3_turned_16 (by decide) ?_
      refine zs_iand C dX3_turned_17 ?_
      refine zs_iadd C dX3_turned_18 ?_
      refine zs_istore_n (lv' := [(1, .int ((2 * x1) + ((x0 >>> (x2 &&& 31)) &&& 1))), (0, .int x0), (2, .int x2)]) C dX3_turned_19 rfl (by decide) rfl ?_
      refine zs_iinc (k := 2) (v := x2 + 1) (lv' := [(2, .int (x2 + 1)), (1, .int ((2 * x1) + ((x0 >>> (x2 &&& 31)) &&& 1))), (0, .int x0)]) C dX3_turned_20 rfl rfl (by decide) rfl ?_
      refine zs_goto (tgt := 4) C dX3_turned_23 (by decide) ?_
      exact zs_sub [2, 1, 0] rfl (ih σ x0 ((2 * x1) + ((x0 >>> (x2 &&& 31)) &&& 1)) (x2 + 1)  hok)
    · have hok := hok.2 c_1
      refine zs_iload_n (k := 1) C dX3_turned_26 rfl rfl ?_
      exact zs_iret C hr dX3_turned_27
def fr_X3_turned (σ : zs_T) (x0 : Int32) : Int32 := (fr_X3_turned_L4 9 σ x0 0 0)
def ok_X3_turned (σ : zs_T) (x0 : Int32) : Prop := (ok_X3_turned_L4 9 σ x0 0 0)
set_option maxHeartbeats 4000000 in
set_option maxRecDepth 100000 in
theorem m_X3_turned {l : Launch} {D : va_G} {cI cN cW : ClassId} {ad : Nat → Nat} (hJ : zs_J 88 ad) (d : Nat) (σ : zs_T) (x0 : Int32) (hok : ok_X3_turned σ x0) : zs_M l D vwCl (tysC cI cN cW) 88 ad (wC cI cN cW ad) yX3_turned (Cond.code yX3_turned cX3_turned 3 (some .int) :: zw_G) (zw_rm (d)) [.int x0] zs_vi σ (σ, fr_X3_turned σ x0) := by
  refine zs_ofZ (cc := cX3_turned) (nL := 3) (ret := (some .int)) (lv0 := [(0, .int x0)]) (by decide) rfl hJ (Nat.le_of_ble_eq_true rfl) rfl ?_
  intro p e s m args below meth c C hr
  unfold ok_X3_turned at hok
  unfold fr_X3_turned
  refine zs_iconst (v := 0) C dX3_turned_0 (by decide) ?_
  refine zs_istore_n (lv' := [(1, .int 0), (0, .int x0)]) C dX3_turned_1 rfl (by decide) rfl ?_
  refine zs_iconst (v := 0) C dX3_turned_2 (by decide) ?_
  refine zs_istore_n (lv' := [(2, .int 0), (1, .int 0), (0, .int x0)]) C dX3_turned_3 rfl (by decide) rfl ?_
  exact zs_sub [2, 1, 0] rfl (lp_X3_turned_L4 C hr d 9 σ x0 0 0  hok)

def fr_X3_orderOfKey (σ : zs_T) (x0 : Int32) : Int32 := (2 * (fr_X3_turned σ (fr_X3_hashOf σ x0))) + 1
def ok_X3_orderOfKey (σ : zs_T) (x0 : Int32) : Prop := ok_X3_turned σ (fr_X3_hashOf σ x0) ∧ (True)
set_option maxHeartbeats 4000000 in
set_option maxRecDepth 100000 in
theorem m_X3_orderOfKey {l : Launch} {D : va_G} {cI cN cW : ClassId} {ad : Nat → Nat} (hJ : zs_J 88 ad) (d : Nat) (σ : zs_T) (x0 : Int32) (hok : ok_X3_orderOfKey σ x0) : zs_M l D vwCl (tysC cI cN cW) 88 ad (wC cI cN cW ad) yX3_orderOfKey (Cond.code yX3_orderOfKey cX3_orderOfKey 1 (some .int) :: zw_G) (zw_rm (d + 1)) [.int x0] zs_vi σ (σ, fr_X3_orderOfKey σ x0) := by
  refine zs_ofZ (cc := cX3_orderOfKey) (nL := 1) (ret := (some .int)) (lv0 := [(0, .int x0)]) (by decide) rfl hJ (Nat.le_of_ble_eq_true rfl) rfl ?_
  intro p e s m args below meth c C hr
  unfold ok_X3_orderOfKey at hok
  unfold fr_X3_orderOfKey
  refine zs_iconst (v := 2) C dX3_orderOfKey_0 (by decide) ?_
  refine zs_iload_n (k := 0) C dX3_orderOfKey_1 rfl rfl ?_
  refine zk_callSi (As := [.int x0]) (rest := [.int 2]) C pk_X3_hashOf (by decide) lkX3_181 (m_X3_hashOf hJ d σ x0) rfl rfl (Nat.le_of_ble_eq_true rfl) dX3_orderOfKey_2 ?_
  obtain ⟨h_1, hok⟩ := hok
  refine zk_callSi (As := [.int (fr_X3_hashOf σ x0)]) (rest := [.int 2]) C pk_X3_turned (by decide) lkX3_290 (m_X3_turned hJ d σ (fr_X3_hashOf σ x0) h_1) rfl rfl (Nat.le_of_ble_eq_true rfl) dX3_orderOfKey_5 ?_
  refine zs_imul C dX3_orderOfKey_8 ?_
  refine zs_iconst (v := 1) C dX3_orderOfKey_9 (by decide) ?_
  refine zs_iadd C dX3_orderOfKey_10 ?_
  exact zs_iret C hr dX3_orderOfKey_11

def fr_X3_orderOfBucket (σ : zs_T) (x0 : Int32) : Int32 := 2 * (fr_X3_turned σ x0)
def ok_X3_orderOfBucket (σ : zs_T) (x0 : Int32) : Prop := ok_X3_turned σ x0 ∧ (True)
set_option maxHeartbeats 4000000 in
set_option maxRecDepth 100000 in
theorem m_X3_orderOfBucket {l : Launch} {D : va_G} {cI cN cW : ClassId} {ad : Nat → Nat} (hJ : zs_J 88 ad) (d : Nat) (σ : zs_T) (x0 : Int32) (hok : ok_X3_orderOfBucket σ x0) : zs_M l D vwCl (tysC cI cN cW) 88 ad (wC cI cN cW ad) yX3_orderOfBucket (Cond.code yX3_orderOfBucket cX3_orderOfBucket 1 (some .int) :: zw_G) (zw_rm (d + 1)) [.int x0] zs_vi σ (σ, fr_X3_orderOfBucket σ x0) := by
  refine zs_ofZ (cc := cX3_orderOfBucket) (nL := 1) (ret := (some .int)) (lv0 := [(0, .int x0)]) (by decide) rfl hJ (Nat.le_of_ble_eq_true rfl) rfl ?_
  intro p e s m args below meth c C hr
  unfold ok_X3_orderOfBucket at hok
  unfold fr_X3_orderOfBucket
  refine zs_iconst (v := 2) C dX3_orderOfBucket_0 (by decide) ?_
  refine zs_iload_n (k := 0) C dX3_orderOfBucket_1 rfl rfl ?_
  obtain ⟨h_1, hok⟩ := hok
  refine zk_callSi (As := [.int x0]) (rest := [.int 2]) C pk_X3_turned (by decide) lkX3_290 (m_X3_turned hJ d σ x0 h_1) rfl rfl (Nat.le_of_ble_eq_true rfl) dX3_orderOfBucket_2 ?_
  refine zs_imul C dX3_orderOfBucket_5 ?_
  exact zs_iret C hr dX3_orderOfBucket_6

def fr_X3_wantedOrder (σ : zs_T) (p0 : Nat) : Int32 := (if fr_X1_isEmpty σ p0 = 0 then fr_X3_orderOfBucket σ (fr_X1_top σ p0) else fr_X3_orderOfKey σ (σ 12 p0))
def ok_X3_wantedOrder (σ : zs_T) (p0 : Nat) : Prop := (fr_X1_isEmpty σ p0 = 0 → ok_X1_top σ p0 ∧ (ok_X3_orderOfBucket σ (fr_X1_top σ p0) ∧ (True))) ∧ (¬ (fr_X1_isEmpty σ p0 = 0) → ok_X3_orderOfKey σ (σ 12 p0) ∧ (True))
set_option maxHeartbeats 4000000 in
set_option maxRecDepth 100000 in
theorem m_X3_wantedOrder {l : Launch} {D : va_G} {cI cN cW : ClassId} {ad : Nat → Nat} (hJ : zs_J 88 ad) (d : Nat) (σ : zs_T) (p0 : Nat) (hp0 : p0 < 4) (hok : ok_X3_wantedOrder σ p0) : zs_M l D vwCl (tysC cI cN cW) 88 ad (wC cI cN cW ad) yX3_wantedOrder (Cond.code yX3_wantedOrder cX3_wantedOrder 1 (some .int) :: zw_G) (zw_rm (d + 2)) [.ref (ad (68 + p0))] zs_vi σ (σ, fr_X3_wantedOrder σ p0) := by
  refine zs_ofZ (cc := cX3_wantedOrder) (nL := 1) (ret := (some .int)) (lv0 := [(0, .ref (ad (68 + p0)))]) (by decide) rfl hJ (Nat.le_of_ble_eq_true rfl) rfl ?_
  intro p e s m args below meth c C hr
  unfold ok_X3_wantedOrder at hok
  unfold fr_X3_wantedOrder
  refine zs_aload_n (k := 0) C dX3_wantedOrder_0 rfl rfl ?_
  refine gC_Worker_stack C hp0 lkX3_86 dX3_wantedOrder_1 ?_
  refine zk_callVi (As := []) (rest := []) C pk_X1_isEmpty (by decide) lkX3_222 (m_X1_isEmpty hJ (d + 1) σ p0 (zc_8a hp0)) (zc_recvNum (zc_8a hp0)) rfl rfl rfl (Nat.le_of_ble_eq_true rfl) dX3_wantedOrder_4 ?_
  refine zs_if_eqP (tgt := 20) C dX3_wantedOrder_7 (by decide) (fun c_1 => ?_) (fun c_1 => ?_)
  · have hok := hok.1 c_1
    refine zs_aload_n (k := 0) C dX3_wantedOrder_20 rfl rfl ?_
    refine gC_Worker_stack C hp0 lkX3_86 dX3_wantedOrder_21 ?_
    obtain ⟨h_2, hok⟩ := hok
    refine zk_callVi (As := []) (rest := []) C pk_X1_top (by decide) lkX3_259 (m_X1_top hJ d σ p0 (zc_8a hp0) h_2) (zc_recvNum (zc_8a hp0)) rfl rfl rfl (Nat.le_of_ble_eq_true rfl) dX3_wantedOrder_24 ?_
    obtain ⟨h_3, hok⟩ := hok
    refine zk_callSi (As := [.int (fr_X1_top σ p0)]) (rest := []) C pk_X3_orderOfBucket (by decide) lkX3_37 (m_X3_orderOfBucket hJ d σ (fr_X1_top σ p0) h_3) rfl rfl (Nat.le_of_ble_eq_true rfl) dX3_wantedOrder_27 ?_
    exact zs_iret C hr dX3_wantedOrder_30
  · have hok := hok.2 c_1
    refine zs_aload_n (k := 0) C dX3_wantedOrder_10 rfl rfl ?_
    refine gC_Worker_key C hp0 lkX3_180 dX3_wantedOrder_11 ?_
    obtain ⟨h_4, hok⟩ := hok
    refine zk_callSi (As := [.int (σ 12 p0)]) (rest := []) C pk_X3_orderOfKey (by decide) lkX3_287 (m_X3_orderOfKey hJ d σ (σ 12 p0) h_4) rfl rfl (Nat.le_of_ble_eq_true rfl) dX3_wantedOrder_14 ?_
    refine zs_goto (tgt := 30) C dX3_wantedOrder_17 (by decide) ?_
    exact zs_iret C hr dX3_wantedOrder_30

def fr_X3_parentOf_L3 : Nat → zs_T → Int32 → Int32 → Int32
  | 0, σ, _, _ => 0
  | n + 1, σ, x0, x1 => (if 0 < x1 then (if x0 &&& x1 = 0 then (fr_X3_parentOf_L3 n σ x0 (x1 / 2)) else x0 - x1) else 0)
def ok_X3_parentOf_L3 : Nat → zs_T → Int32 → Int32 → Prop
  | 0, _, _, _ => False
  | n + 1, σ, x0, x1 => (0 < x1 → (x0 &&& x1 = 0 → (ok_X3_parentOf_L3 n σ x0 (x1 / 2))) ∧ (¬ (x0 &&& x1 = 0) → True)) ∧ (¬ (0 < x1) → True)
set_option maxHeartbeats 4000000 in
set_option maxRecDepth 100000 in
theorem lp_X3_parentOf_L3 {p : Program} {l : Launch} {e : Env} {s : State} {m : MethodId} {args : Array Value} {below : List Frame} {meth : Method} {c : Code} {D : va_G} {cI cN cW : ClassId} {ad : Nat → Nat} (C : zs_C p s m args meth c cX3_parentOf 2 (Cond.code yX3_parentOf cX3_parentOf 2 (some .int) :: zw_G) yX3_parentOf.cls D vwCl (tysC cI cN cW) 88 ad) (hr : meth.sig.returnType = (some .int)) (d : Nat) : ∀ (n : Nat) (σ : zs_T) (x0 : Int32) (x1 : Int32), ok_X3_parentOf_L3 n σ x0 x1 → zs_Z p l e (zw_rm (d)) s m args below meth c D vwCl 88 ad (wC cI cN cW ad) 2 zs_vi (σ, fr_X3_parentOf_L3 n σ x0 x1) σ 3 [(0, .int x0), (1, .int x1)] [] := by
  have hJ := C.2.2.1
  intro n
  induction n with
  | zero => intro σ x0 x1  hok; exact hok.elim
  | succ n ih =>
    intro σ x0 x1  hok
    rw [ok_X3_parentOf_L3] at hok
    rw [fr_X3_parentOf_L3]
    refine zs_iload_n (k := 1) C dX3_parentOf_3 rfl rfl ?_
    refine zs_if_leP (tgt := 24) C dX3_parentOf_4 (by decide) (fun c_1 => ?_) (fun c_1 => ?_)
    · have hok := hok.1 c_1
      refine zs_iload_n (k := 0) C dX3_parentOf_7 rfl rfl ?_
      refine zs_iload_n (k := 1) C dX3_parentOf_8 rfl rfl ?_
      refine zs_iand C dX3_parentOf_9 ?_
      refine zs_if_eqP (tgt := 17) C dX3_parentOf_10 (by decide) (fun c_2 => ?_) (fun c_2 => ?_)
      · have hok := hok.1 c_2
        refine zs_iload_n (k := 1) C dX3_parentOf_17 rfl rfl ?_
        refine zs_iconst (v := 2) C dX3_parentOf_18 (by decide) ?_
        refine zs_idiv C dX3_parentOf_19 (by decide) ?_
        refine zs_istore_n (lv' := [(1, .int (x1 / 2)), (0, .int x0)]) C dX3_parentOf_20 rfl (by decide) rfl ?_
        refine zs_goto (tgt := 3) C dX3_parentOf_21 (by decide) ?_
        exact zs_sub [1, 0] rfl (ih σ x0 (x1 / 2)  hok)
      · have hok := hok.2 c_2
        refine zs_iload_n (k := 0) C dX3_parentOf_13 rfl rfl ?_
        refine zs_iload_n (k := 1) C dX3_parentOf_14 rfl rfl ?_
        refine zs_isub C dX3_parentOf_15 ?_
        exact zs_iret C hr dX3_parentOf_16
    · have hok := hok.2 c_1
      refine zs_iconst (v := 0) C dX3_parentOf_24 (by decide) ?_
      exact zs_iret C hr dX3_parentOf_25
def fr_X3_parentOf (σ : zs_T) (x0 : Int32) : Int32 := (fr_X3_parentOf_L3 5 σ x0 8)
def ok_X3_parentOf (σ : zs_T) (x0 : Int32) : Prop := (ok_X3_parentOf_L3 5 σ x0 8)
set_option maxHeartbeats 4000000 in
set_option maxRecDepth 100000 in
theorem m_X3_parentOf {l : Launch} {D : va_G} {cI cN cW : ClassId} {ad : Nat → Nat} (hJ : zs_J 88 ad) (d : Nat) (σ : zs_T) (x0 : Int32) (hok : ok_X3_parentOf σ x0) : zs_M l D vwCl (tysC cI cN cW) 88 ad (wC cI cN cW ad) yX3_parentOf (Cond.code yX3_parentOf cX3_parentOf 2 (some .int) :: zw_G) (zw_rm (d)) [.int x0] zs_vi σ (σ, fr_X3_parentOf σ x0) := by
  refine zs_ofZ (cc := cX3_parentOf) (nL := 2) (ret := (some .int)) (lv0 := [(0, .int x0)]) (by decide) rfl hJ (Nat.le_of_ble_eq_true rfl) rfl ?_
  intro p e s m args below meth c C hr
  unfold ok_X3_parentOf at hok
  unfold fr_X3_parentOf
  refine zs_bipush (v := 8) C dX3_parentOf_0 (by decide) ?_
  refine zs_istore_n (lv' := [(1, .int 8), (0, .int x0)]) C dX3_parentOf_2 rfl (by decide) rfl ?_
  exact zs_sub [1, 0] rfl (lp_X3_parentOf_L3 C hr d 5 σ x0 8  hok)
end
section
def fr_X3_nextOf (σ : zs_T) (x1 : Int32) : Int32 := (if fr_X3_isNode σ x1 = 0 then (-1) else σ 2 x1.toNatClampNeg)
set_option maxHeartbeats 4000000 in
set_option maxRecDepth 100000 in
theorem m_X3_nextOf {l : Launch} {D : va_G} {cI cN cW : ClassId} {ad : Nat → Nat} (hJ : zs_J 88 ad) (d : Nat) (σ : zs_T) (x1 : Int32) : zs_M l D vwCl (tysC cI cN cW) 88 ad (wC cI cN cW ad) yX3_nextOf (Cond.code yX3_nextOf cX3_nextOf 2 (some .int) :: zw_G) (zw_rm (d + 1)) [.ref (ad 0), .int x1] zs_vi σ (σ, fr_X3_nextOf σ x1) := by
  refine zs_ofZ (cc := cX3_nextOf) (nL := 2) (ret := (some .int)) (lv0 := [(0, .ref (ad 0)), (1, .int x1)]) (by decide) rfl hJ (Nat.le_of_ble_eq_true rfl) rfl ?_
  intro p e s m args below meth c C hr
  unfold fr_X3_nextOf
  refine zs_iload_n (k := 1) C dX3_nextOf_0 rfl rfl ?_
  refine zk_callSi (As := [.int x1]) (rest := []) C pk_X3_isNode (by decide) lkX3_103 (m_X3_isNode hJ d σ x1) rfl rfl (Nat.le_of_ble_eq_true rfl) dX3_nextOf_1 ?_
  refine zs_if_eqP (tgt := 19) C dX3_nextOf_4 (by decide) (fun c_1 => ?_) (fun c_1 => ?_)
  · refine zs_iconst (v := (-1)) C dX3_nextOf_19 (by decide) ?_
    exact zs_iret C hr dX3_nextOf_20
  · refine zs_aload_n (k := 0) C dX3_nextOf_7 rfl rfl ?_
    refine gC_S_nodes C lkX3_11 dX3_nextOf_8 ?_
    refine zs_iload_n (k := 1) C dX3_nextOf_11 rfl rfl ?_
    refine aC_nodes C (zc_inNode c_1) dX3_nextOf_12 ?_
    refine gC_Node_next C (zs_lt (zc_inNode c_1)) lkX3_114 dX3_nextOf_13 ?_
    refine zs_goto (tgt := 20) C dX3_nextOf_16 (by decide) ?_
    exact zs_iret C hr dX3_nextOf_20

def fr_X3_valueOf (σ : zs_T) (x1 : Int32) : Int32 := (if fr_X3_isNode σ x1 = 0 then (-1) else σ 5 x1.toNatClampNeg)
set_option maxHeartbeats 4000000 in
set_option maxRecDepth 100000 in
theorem m_X3_valueOf {l : Launch} {D : va_G} {cI cN cW : ClassId} {ad : Nat → Nat} (hJ : zs_J 88 ad) (d : Nat) (σ : zs_T) (x1 : Int32) : zs_M l D vwCl (tysC cI cN cW) 88 ad (wC cI cN cW ad) yX3_valueOf (Cond.code yX3_valueOf cX3_valueOf 2 (some .int) :: zw_G) (zw_rm (d + 1)) [.ref (ad 0), .int x1] zs_vi σ (σ, fr_X3_valueOf σ x1) := by
  refine zs_ofZ (cc := cX3_valueOf) (nL := 2) (ret := (some .int)) (lv0 := [(0, .ref (ad 0)), (1, .int x1)]) (by decide) rfl hJ (Nat.le_of_ble_eq_true rfl) rfl ?_
  intro p e s m args below meth c C hr
  unfold fr_X3_valueOf
  refine zs_iload_n (k := 1) C dX3_valueOf_0 rfl rfl ?_
  refine zk_callSi (As := [.int x1]) (rest := []) C pk_X3_isNode (by decide) lkX3_103 (m_X3_isNode hJ d σ x1) rfl rfl (Nat.le_of_ble_eq_true rfl) dX3_valueOf_1 ?_
  refine zs_if_eqP (tgt := 19) C dX3_valueOf_4 (by decide) (fun c_1 => ?_) (fun c_1 => ?_)
  · refine zs_iconst (v := (-1)) C dX3_valueOf_19 (by decide) ?_
    exact zs_iret C hr dX3_valueOf_20
  · refine zs_aload_n (k := 0) C dX3_valueOf_7 rfl rfl ?_
    refine gC_S_nodes C lkX3_11 dX3_valueOf_8 ?_
    refine zs_iload_n (k := 1) C dX3_valueOf_11 rfl rfl ?_
    refine aC_nodes C (zc_inNode c_1) dX3_valueOf_12 ?_
    refine gC_Node_value C (zs_lt (zc_inNode c_1)) lkX3_124 dX3_valueOf_13 ?_
    refine zs_goto (tgt := 20) C dX3_valueOf_16 (by decide) ?_
    exact zs_iret C hr dX3_valueOf_20

def fr_X3_nodeOfBucket (σ : zs_T) (x1 : Int32) : Int32 := (if fr_X3_isBucket σ x1 = 0 then (-1) else σ 31 (x1.toNatClampNeg))
set_option maxHeartbeats 4000000 in
set_option maxRecDepth 100000 in
theorem m_X3_nodeOfBucket {l : Launch} {D : va_G} {cI cN cW : ClassId} {ad : Nat → Nat} (hJ : zs_J 88 ad) (d : Nat) (σ : zs_T) (x1 : Int32) : zs_M l D vwCl (tysC cI cN cW) 88 ad (wC cI cN cW ad) yX3_nodeOfBucket (Cond.code yX3_nodeOfBucket cX3_nodeOfBucket 2 (some .int) :: zw_G) (zw_rm (d + 1)) [.ref (ad 0), .int x1] zs_vi σ (σ, fr_X3_nodeOfBucket σ x1) := by
  refine zs_ofZ (cc := cX3_nodeOfBucket) (nL := 2) (ret := (some .int)) (lv0 := [(0, .ref (ad 0)), (1, .int x1)]) (by decide) rfl hJ (Nat.le_of_ble_eq_true rfl) rfl ?_
  intro p e s m args below meth c C hr
  unfold fr_X3_nodeOfBucket
  refine zs_iload_n (k := 1) C dX3_nodeOfBucket_0 rfl rfl ?_
  refine zk_callSi (As := [.int x1]) (rest := []) C pk_X3_isBucket (by decide) lkX3_263 (m_X3_isBucket hJ d σ x1) rfl rfl (Nat.le_of_ble_eq_true rfl) dX3_nodeOfBucket_1 ?_
  refine zs_if_eqP (tgt := 16) C dX3_nodeOfBucket_4 (by decide) (fun c_1 => ?_) (fun c_1 => ?_)
  · refine zs_iconst (v := (-1)) C dX3_nodeOfBucket_16 (by decide) ?_
    exact zs_iret C hr dX3_nodeOfBucket_17
  · refine zs_aload_n (k := 0) C dX3_nodeOfBucket_7 rfl rfl ?_
    refine gC_S_bucketNodes C lkX3_21 dX3_nodeOfBucket_8 ?_
    refine zs_iload_n (k := 1) C dX3_nodeOfBucket_11 rfl rfl ?_
    refine aC_bk C (zc_inBk c_1) dX3_nodeOfBucket_12 ?_
    refine zs_goto (tgt := 17) C dX3_nodeOfBucket_13 (by decide) ?_
    exact zs_iret C hr dX3_nodeOfBucket_17

def fn_X3_mayLoad (σ : zs_T) (p1 : Nat) : zs_O := (if σ 15 p1 = σ 34 0 then (σ, 1) else ((zs_u σ 15 p1 (σ 34 0)), 0))
set_option maxHeartbeats 4000000 in
set_option maxRecDepth 100000 in
theorem m_X3_mayLoad {l : Launch} {D : va_G} {cI cN cW : ClassId} {ad : Nat → Nat} (hJ : zs_J 88 ad) (d : Nat) (σ : zs_T) (p1 : Nat) (hp1 : p1 < 4) : zs_M l D vwCl (tysC cI cN cW) 88 ad (wC cI cN cW ad) yX3_mayLoad (Cond.code yX3_mayLoad cX3_mayLoad 2 (some .boolean) :: zw_G) (zw_rm (d)) [.ref (ad 0), .ref (ad (68 + p1))] zs_vi σ (fn_X3_mayLoad σ p1) := by
  refine zs_ofZ (cc := cX3_mayLoad) (nL := 2) (ret := (some .boolean)) (lv0 := [(0, .ref (ad 0)), (1, .ref (ad (68 + p1)))]) (by decide) rfl hJ (Nat.le_of_ble_eq_true rfl) rfl ?_
  intro p e s m args below meth c C hr
  unfold fn_X3_mayLoad
  refine zs_aload_n (k := 1) C dX3_mayLoad_0 rfl rfl ?_
  refine gC_Worker_high C hp1 lkX3_74 dX3_mayLoad_1 ?_
  refine zs_aload_n (k := 0) C dX3_mayLoad_4 rfl rfl ?_
  refine gC_S_era C lkX3_32 dX3_mayLoad_5 ?_
  refine zs_icmp_ne (tgt := 13) C dX3_mayLoad_8 (by decide) (fun c_1 => ?_) (fun c_1 => ?_)
  · refine zs_iconst (v := 1) C dX3_mayLoad_11 (by decide) ?_
    exact zs_zret C hr rfl dX3_mayLoad_12
  · refine zs_aload_n (k := 1) C dX3_mayLoad_13 rfl rfl ?_
    refine zs_aload_n (k := 0) C dX3_mayLoad_14 rfl rfl ?_
    refine gC_S_era C lkX3_32 dX3_mayLoad_15 ?_
    refine pC_Worker_high C hp1 lkX3_74 dX3_mayLoad_18 ?_
    refine zs_iconst (v := 0) C dX3_mayLoad_21 (by decide) ?_
    exact zs_zret C hr rfl dX3_mayLoad_22

def fr_X3_leadsTo (σ : zs_T) (x1 : Int32) (x2 : Int32) : Int32 := (if fr_X3_isNode σ x1 = 0 then 0 else (if σ 2 x1.toNatClampNeg = x2 then (if σ 3 x1.toNatClampNeg = 0 then 1 else 0) else 0))
set_option maxHeartbeats 4000000 in
set_option maxRecDepth 100000 in
theorem m_X3_leadsTo {l : Launch} {D : va_G} {cI cN cW : ClassId} {ad : Nat → Nat} (hJ : zs_J 88 ad) (d : Nat) (σ : zs_T) (x1 : Int32) (x2 : Int32) : zs_M l D vwCl (tysC cI cN cW) 88 ad (wC cI cN cW ad) yX3_leadsTo (Cond.code yX3_leadsTo cX3_leadsTo 3 (some .boolean) :: zw_G) (zw_rm (d + 1)) [.ref (ad 0), .int x1, .int x2] zs_vi σ (σ, fr_X3_leadsTo σ x1 x2) := by
  refine zs_ofZ (cc := cX3_leadsTo) (nL := 3) (ret := (some .boolean)) (lv0 := [(0, .ref (ad 0)), (1, .int x1), (2, .int x2)]) (by decide) rfl hJ (Nat.le_of_ble_eq_true rfl) rfl ?_
  intro p e s m args below meth c C hr
  unfold fr_X3_leadsTo
  refine zs_iload_n (k := 1) C dX3_leadsTo_0 rfl rfl ?_
  refine zk_callSi (As := [.int x1]) (rest := []) C pk_X3_isNode (by decide) lkX3_103 (m_X3_isNode hJ d σ x1) rfl rfl (Nat.le_of_ble_eq_true rfl) dX3_leadsTo_1 ?_
  refine zs_if_eqP (tgt := 36) C dX3_leadsTo_4 (by decide) (fun c_1 => ?_) (fun c_1 => ?_)
  · refine zs_iconst (v := 0) C dX3_leadsTo_36 (by decide) ?_
    exact zs_zret C hr rfl dX3_leadsTo_37
  · refine zs_aload_n (k := 0) C dX3_leadsTo_7 rfl rfl ?_
    refine gC_S_nodes C lkX3_11 dX3_leadsTo_8 ?_
    refine zs_iload_n (k := 1) C dX3_leadsTo_11 rfl rfl ?_
    refine aC_nodes C (zc_inNode c_1) dX3_leadsTo_12 ?_
    refine gC_Node_next C (zs_lt (zc_inNode c_1)) lkX3_114 dX3_leadsTo_13 ?_
    refine zs_iload_n (k := 2) C dX3_leadsTo_16 rfl rfl ?_
    refine zs_icmp_neP (tgt := 36) C dX3_leadsTo_17 (by decide) (fun c_2 => ?_) (fun c_2 => ?_)
    · refine zs_aload_n (k := 0) C dX3_leadsTo_20 rfl rfl ?_
      refine gC_S_nodes C lkX3_11 dX3_leadsTo_21 ?_
      refine zs_iload_n (k := 1) C dX3_leadsTo_24 rfl rfl ?_
      refine aC_nodes C (zc_inNode c_1) dX3_leadsTo_25 ?_
      refine gC_Node_marked C (zs_lt (zc_inNode c_1)) lkX3_117 dX3_leadsTo_26 ?_
      refine zs_if_neP (tgt := 36) C dX3_leadsTo_29 (by decide) (fun c_3 => ?_) (fun c_3 => ?_)
      · refine zs_iconst (v := 1) C dX3_leadsTo_32 (by decide) ?_
        refine zs_goto (tgt := 37) C dX3_leadsTo_33 (by decide) ?_
        exact zs_zret C hr rfl dX3_leadsTo_37
      · refine zs_iconst (v := 0) C dX3_leadsTo_36 (by decide) ?_
        exact zs_zret C hr rfl dX3_leadsTo_37
    · refine zs_iconst (v := 0) C dX3_leadsTo_36 (by decide) ?_
      exact zs_zret C hr rfl dX3_leadsTo_37

def fn_X3_change (σ : zs_T) (x1 : Int32) (x2 : Int32) (x3 : Int32) (x4 : Int32) : zs_O := (if fr_X3_leadsTo σ x1 x2 = 0 then (σ, 0) else ((fn_X0_pointTo σ x1.toNatClampNeg x3 x4).1, 1))
def ok_X3_change (σ : zs_T) (x1 : Int32) (x2 : Int32) (x3 : Int32) (x4 : Int32) : Prop := (fr_X3_leadsTo σ x1 x2 = 0 → True) ∧ (¬ (fr_X3_leadsTo σ x1 x2 = 0) → vp_in x1 64 ∧ (ok_X0_pointTo σ x1.toNatClampNeg x3 x4 ∧ (True)))
set_option maxHeartbeats 4000000 in
set_option maxRecDepth 100000 in
theorem m_X3_change {l : Launch} {D : va_G} {cI cN cW : ClassId} {ad : Nat → Nat} (hJ : zs_J 88 ad) (d : Nat) (σ : zs_T) (x1 : Int32) (x2 : Int32) (x3 : Int32) (x4 : Int32) (hok : ok_X3_change σ x1 x2 x3 x4) : zs_M l D vwCl (tysC cI cN cW) 88 ad (wC cI cN cW ad) yX3_change (Cond.code yX3_change cX3_change 5 (some .boolean) :: zw_G) (zw_rm (d + 2)) [.ref (ad 0), .int x1, .int x2, .int x3, .int x4] zs_vi σ (fn_X3_change σ x1 x2 x3 x4) := by
  refine zs_ofZ (cc := cX3_change) (nL := 5) (ret := (some .boolean)) (lv0 := [(0, .ref (ad 0)), (1, .int x1), (2, .int x2), (3, .int x3), (4, .int x4)]) (by decide) rfl hJ (Nat.le_of_ble_eq_true rfl) rfl ?_
  intro p e s m args below meth c C hr
  unfold ok_X3_change at hok
  unfold fn_X3_change
  refine zs_aload_n (k := 0) C dX3_change_0 rfl rfl ?_
  refine zs_iload_n (k := 1) C dX3_change_1 rfl rfl ?_
  refine zs_iload_n (k := 2) C dX3_change_2 rfl rfl ?_
  refine zk_callVi (As := [.int x1, .int x2]) (rest := []) C pk_X3_leadsTo (by decide) lkX3_214 (m_X3_leadsTo hJ d σ x1 x2) zc_recvS rfl rfl rfl (Nat.le_of_ble_eq_true rfl) dX3_change_3 ?_
  refine zs_if_ne (tgt := 11) C dX3_change_6 (by decide) (fun c_1 => ?_) (fun c_1 => ?_)
  · have hok := hok.1 c_1
    refine zs_iconst (v := 0) C dX3_change_9 (by decide) ?_
    exact zs_zret C hr rfl dX3_change_10
  · have hok := hok.2 c_1
    refine zs_aload_n (k := 0) C dX3_change_11 rfl rfl ?_
    refine gC_S_nodes C lkX3_11 dX3_change_12 ?_
    refine zs_iload_n (k := 1) C dX3_change_15 rfl rfl ?_
    obtain ⟨h_2, hok⟩ := hok
    refine aC_nodes C h_2 dX3_change_16 ?_
    refine zs_iload_n (k := 3) C dX3_change_17 rfl rfl ?_
    refine zs_iload (k := 4) C dX3_change_18 rfl ?_
    obtain ⟨h_3, hok⟩ := hok
    refine zk_callVv (As := [.int x3, .int x4]) (rest := []) C pk_X0_pointTo (by decide) lkX3_252 (m_X0_pointTo hJ (d + 1) σ x1.toNatClampNeg x3 x4 (zs_lt h_2) h_3) (zc_recvNode (zs_lt h_2)) rfl rfl rfl (Nat.le_of_ble_eq_true rfl) dX3_change_20 ?_
    refine zs_iconst (v := 1) C dX3_change_23 (by decide) ?_
    exact zs_zret C hr rfl dX3_change_24

def fn_X3_retire (σ : zs_T) (p1 : Nat) (x2 : Int32) : zs_O := (if fr_X3_isNode σ x2 = 0 then (σ, 0) else ((fn_X1_add (zs_u (zs_u (zs_u σ 0 x2.toNatClampNeg 2) 7 x2.toNatClampNeg ((zs_u σ 0 x2.toNatClampNeg 2) 34 0)) 34 0 (((zs_u (zs_u σ 0 x2.toNatClampNeg 2) 7 x2.toNatClampNeg ((zs_u σ 0 x2.toNatClampNeg 2) 34 0)) 34 0) + 1)) (4 + p1) x2).1, 0))
def ok_X3_retire (σ : zs_T) (p1 : Nat) (x2 : Int32) : Prop := (fr_X3_isNode σ x2 = 0 → True) ∧ (¬ (fr_X3_isNode σ x2 = 0) → ok_X1_add (zs_u (zs_u (zs_u σ 0 x2.toNatClampNeg 2) 7 x2.toNatClampNeg ((zs_u σ 0 x2.toNatClampNeg 2) 34 0)) 34 0 (((zs_u (zs_u σ 0 x2.toNatClampNeg 2) 7 x2.toNatClampNeg ((zs_u σ 0 x2.toNatClampNeg 2) 34 0)) 34 0) + 1)) (4 + p1) x2 ∧ (True))
set_option maxHeartbeats 4000000 in
set_option maxRecDepth 100000 in
theorem m_X3_retire {l : Launch} {D : va_G} {cI cN cW : ClassId} {ad : Nat → Nat} (hJ : zs_J 88 ad) (d : Nat) (σ : zs_T) (p1 : Nat) (x2 : Int32) (hp1 : p1 < 4) (hok : ok_X3_retire σ p1 x2) : zs_M l D vwCl (tysC cI cN cW) 88 ad (wC cI cN cW ad) yX3_retire (Cond.code yX3_retire cX3_retire 3 none :: zw_G) (zw_rm (d + 1)) [.ref (ad 0), .ref (ad (68 + p1)), .int x2] zs_vv σ (fn_X3_retire σ p1 x2) := by
  refine zs_ofZ (cc := cX3_retire) (nL := 3) (ret := none) (lv0 := [(0, .ref (ad 0)), (1, .ref (ad (68 + p1))), (2, .int x2)]) (by decide) rfl hJ (Nat.le_of_ble_eq_true rfl) rfl ?_
  intro p e s m args below meth c C hr
  unfold ok_X3_retire at hok
  unfold fn_X3_retire
  refine zs_iload_n (k := 2) C dX3_retire_0 rfl rfl ?_
  refine zk_callSi (As := [.int x2]) (rest := []) C pk_X3_isNode (by decide) lkX3_103 (m_X3_isNode hJ d σ x2) rfl rfl (Nat.le_of_ble_eq_true rfl) dX3_retire_1 ?_
  refine zs_if_ne (tgt := 8) C dX3_retire_4 (by decide) (fun c_1 => ?_) (fun c_1 => ?_)
  · have hok := hok.1 c_1
    exact zs_vret C hr dX3_retire_7
  · have hok := hok.2 c_1
    refine zs_aload_n (k := 0) C dX3_retire_8 rfl rfl ?_
    refine gC_S_nodes C lkX3_11 dX3_retire_9 ?_
    refine zs_iload_n (k := 2) C dX3_retire_12 rfl rfl ?_
    refine aC_nodes C (zc_inNode c_1) dX3_retire_13 ?_
    refine zs_iconst (v := 2) C dX3_retire_14 (by decide) ?_
    refine pC_Node_state C (zs_lt (zc_inNode c_1)) lkX3_108 dX3_retire_15 ?_
    refine zs_aload_n (k := 0) C dX3_retire_18 rfl rfl ?_
    refine gC_S_nodes C lkX3_11 dX3_retire_19 ?_
    refine zs_iload_n (k := 2) C dX3_retire_22 rfl rfl ?_
    refine aC_nodes C (zc_inNode c_1) dX3_retire_23 ?_
    refine zs_aload_n (k := 0) C dX3_retire_24 rfl rfl ?_
    refine gC_S_era C lkX3_32 dX3_retire_25 ?_
    refine pC_Node_died C (zs_lt (zc_inNode c_1)) lkX3_130 dX3_retire_28 ?_
    refine zs_aload_n (k := 0) C dX3_retire_31 rfl rfl ?_
    refine zs_dup C dX3_retire_32 rfl ?_
    refine gC_S_era C lkX3_32 dX3_retire_33 ?_
    refine zs_iconst (v := 1) C dX3_retire_36 (by decide) ?_
    refine zs_iadd C dX3_retire_37 ?_
    refine pC_S_era C lkX3_32 dX3_retire_38 ?_
    refine zs_aload_n (k := 1) C dX3_retire_41 rfl rfl ?_
    refine gC_Worker_row C hp1 lkX3_77 dX3_retire_42 ?_
    refine zs_iload_n (k := 2) C dX3_retire_45 rfl rfl ?_
    obtain ⟨h_2, hok⟩ := hok
    refine zk_callVv (As := [.int x2]) (rest := []) C pk_X1_add (by decide) lkX3_194 (m_X1_add hJ d (zs_u (zs_u (zs_u σ 0 x2.toNatClampNeg 2) 7 x2.toNatClampNeg ((zs_u σ 0 x2.toNatClampNeg 2) 34 0)) 34 0 (((zs_u (zs_u σ 0 x2.toNatClampNeg 2) 7 x2.toNatClampNeg ((zs_u σ 0 x2.toNatClampNeg 2) 34 0)) 34 0) + 1)) (4 + p1) x2 (zc_8b hp1) h_2) (zc_recvNum (zc_8b hp1)) rfl rfl rfl (Nat.le_of_ble_eq_true rfl) dX3_retire_46 ?_
    exact zs_vret C hr dX3_retire_49

def fn_X3_freeOwn (σ : zs_T) (p1 : Nat) : zs_O := (if fr_X3_isNode σ (σ 22 p1) = 0 then ((zs_u σ 22 p1 (-1)), 0) else ((zs_u (zs_u σ 0 ((σ 22 p1).toNatClampNeg) 0) 22 p1 (-1)), 0))
set_option maxHeartbeats 4000000 in
set_option maxRecDepth 100000 in
theorem m_X3_freeOwn {l : Launch} {D : va_G} {cI cN cW : ClassId} {ad : Nat → Nat} (hJ : zs_J 88 ad) (d : Nat) (σ : zs_T) (p1 : Nat) (hp1 : p1 < 4) : zs_M l D vwCl (tysC cI cN cW) 88 ad (wC cI cN cW ad) yX3_freeOwn (Cond.code yX3_freeOwn cX3_freeOwn 2 none :: zw_G) (zw_rm (d + 1)) [.ref (ad 0), .ref (ad (68 + p1))] zs_vv σ (fn_X3_freeOwn σ p1) := by
  refine zs_ofZ (cc := cX3_freeOwn) (nL := 2) (ret := none) (lv0 := [(0, .ref (ad 0)), (1, .ref (ad (68 + p1)))]) (by decide) rfl hJ (Nat.le_of_ble_eq_true rfl) rfl ?_
  intro p e s m args below meth c C hr
  unfold fn_X3_freeOwn
  refine zs_aload_n (k := 1) C dX3_freeOwn_0 rfl rfl ?_
  refine gC_Worker_own C hp1 lkX3_98 dX3_freeOwn_1 ?_
  refine zk_callSi (As := [.int (σ 22 p1)]) (rest := []) C pk_X3_isNode (by decide) lkX3_103 (m_X3_isNode hJ d σ (σ 22 p1)) rfl rfl (Nat.le_of_ble_eq_true rfl) dX3_freeOwn_4 ?_
  refine zs_if_eq (tgt := 23) C dX3_freeOwn_7 (by decide) (fun c_1 => ?_) (fun c_1 => ?_)
  · refine zs_aload_n (k := 1) C dX3_freeOwn_23 rfl rfl ?_
    refine zs_iconst (v := (-1)) C dX3_freeOwn_24 (by decide) ?_
    refine pC_Worker_own C hp1 lkX3_98 dX3_freeOwn_25 ?_
    exact zs_vret C hr dX3_freeOwn_28
  · refine zs_aload_n (k := 0) C dX3_freeOwn_10 rfl rfl ?_
    refine gC_S_nodes C lkX3_11 dX3_freeOwn_11 ?_
    refine zs_aload_n (k := 1) C dX3_freeOwn_14 rfl rfl ?_
    refine gC_Worker_own C hp1 lkX3_98 dX3_freeOwn_15 ?_
    refine aC_nodes C (zc_inNode c_1) dX3_freeOwn_18 ?_
    refine zs_iconst (v := 0) C dX3_freeOwn_19 (by decide) ?_
    refine pC_Node_state C (zs_lt (zc_inNode c_1)) lkX3_108 dX3_freeOwn_20 ?_
    refine zs_aload_n (k := 1) C dX3_freeOwn_23 rfl rfl ?_
    refine zs_iconst (v := (-1)) C dX3_freeOwn_24 (by decide) ?_
    refine pC_Worker_own C hp1 lkX3_98 dX3_freeOwn_25 ?_
    exact zs_vret C hr dX3_freeOwn_28

def fn_X3_end (σ : zs_T) (p1 : Nat) (x2 : Int32) : zs_O := ((fn_X2_rest ((fn_X3_freeOwn σ p1).1) p1 x2).1, 0)
set_option maxHeartbeats 4000000 in
set_option maxRecDepth 100000 in
theorem m_X3_end {l : Launch} {D : va_G} {cI cN cW : ClassId} {ad : Nat → Nat} (hJ : zs_J 88 ad) (d : Nat) (σ : zs_T) (p1 : Nat) (x2 : Int32) (hp1 : p1 < 4) : zs_M l D vwCl (tysC cI cN cW) 88 ad (wC cI cN cW ad) yX3_end (Cond.code yX3_end cX3_end 3 none :: zw_G) (zw_rm (d + 2)) [.ref (ad 0), .ref (ad (68 + p1)), .int x2] zs_vv σ (fn_X3_end σ p1 x2) := by
  refine zs_ofZ (cc := cX3_end) (nL := 3) (ret := none) (lv0 := [(0, .ref (ad 0)), (1, .ref (ad (68 + p1))), (2, .int x2)]) (by decide) rfl hJ (Nat.le_of_ble_eq_true rfl) rfl ?_
  intro p e s m args below meth c C hr
  unfold fn_X3_end
  refine zs_aload_n (k := 0) C dX3_end_0 rfl rfl ?_
  refine zs_aload_n (k := 1) C dX3_end_1 rfl rfl ?_
  refine zk_callVv (As := [.ref (ad (68 + p1))]) (rest := []) C pk_X3_freeOwn (by decide) lkX3_256 (m_X3_freeOwn hJ d σ p1 hp1) zc_recvS rfl rfl rfl (Nat.le_of_ble_eq_true rfl) dX3_end_2 ?_
  refine zs_aload_n (k := 1) C dX3_end_5 rfl rfl ?_
  refine zs_iload_n (k := 2) C dX3_end_6 rfl rfl ?_
  refine zk_callVv (As := [.int x2]) (rest := []) C pk_X2_rest (by decide) lkX3_283 (m_X2_rest hJ d ((fn_X3_freeOwn σ p1).1) p1 x2 hp1) (zc_recvWorker hp1) rfl rfl rfl (Nat.le_of_ble_eq_true rfl) dX3_end_7 ?_
  exact zs_vret C hr dX3_end_10

def fr_X3_canBeReached_L2 : Nat → zs_T → Nat → Int32 → Int32
  | 0, σ, _, _ => 0
  | n + 1, σ, k1, x2 => (if x2 < 4 then (if σ 10 x2.toNatClampNeg = 0 then (fr_X3_canBeReached_L2 n σ k1 (x2 + 1)) else (if σ 7 k1 < σ 14 x2.toNatClampNeg then (fr_X3_canBeReached_L2 n σ k1 (x2 + 1)) else (if σ 15 x2.toNatClampNeg < σ 6 k1 then (fr_X3_canBeReached_L2 n σ k1 (x2 + 1)) else 1))) else 0)
def ok_X3_canBeReached_L2 : Nat → zs_T → Nat → Int32 → Prop
  | 0, _, _, _ => False
  | n + 1, σ, k1, x2 => (x2 < 4 → vp_in x2 4 ∧ ((σ 10 x2.toNatClampNeg = 0 → (ok_X3_canBeReached_L2 n σ k1 (x2 + 1))) ∧ (¬ (σ 10 x2.toNatClampNeg = 0) → (σ 7 k1 < σ 14 x2.toNatClampNeg → (ok_X3_canBeReached_L2 n σ k1 (x2 + 1))) ∧ (¬ (σ 7 k1 < σ 14 x2.toNatClampNeg) → (σ 15 x2.toNatClampNeg < σ 6 k1 → (ok_X3_canBeReached_L2 n σ k1 (x2 + 1))) ∧ (¬ (σ 15 x2.toNatClampNeg < σ 6 k1) → True))))) ∧ (¬ (x2 < 4) → True)
set_option maxHeartbeats 4000000 in
set_option maxRecDepth 100000 in
theorem lp_X3_canBeReached_L2 {p : Program} {l : Launch} {e : Env} {s : State} {m : MethodId} {args : Array Value} {below : List Frame} {meth : Method} {c : Code} {D : va_G} {cI cN cW : ClassId} {ad : Nat → Nat} (C : zs_C p s m args meth c cX3_canBeReached 4 (Cond.code yX3_canBeReached cX3_canBeReached 4 (some .boolean) :: zw_G) yX3_canBeReached.cls D vwCl (tysC cI cN cW) 88 ad) (hr : meth.sig.returnType = (some .boolean)) (d : Nat) : ∀ (n : Nat) (σ : zs_T) (k1 : Nat) (x2 : Int32) (hk1 : k1 < 64), ok_X3_canBeReached_L2 n σ k1 x2 → zs_Z p l e (zw_rm (d)) s m args below meth c D vwCl 88 ad (wC cI cN cW ad) 4 zs_vi (σ, fr_X3_canBeReached_L2 n σ k1 x2) σ 2 [(0, .ref (ad 0)), (1, .ref (ad (4 + k1))), (2, .int x2)] [] := by
  have hJ := C.2.2.1
  intro n
  induction n with
  | zero => intro σ k1 x2 hk1 hok; exact hok.elim
  | succ n ih =>
    intro σ k1 x2 hk1 hok
    rw [ok_X3_canBeReached_L2] at hok
    rw [fr_X3_canBeReached_L2]
    refine zs_iload_n (k := 2) C dX3_canBeReached_2 rfl rfl ?_
    refine zs_iconst (v := 4) C dX3_canBeReached_3 (by decide) ?_
    refine zs_icmp_geP (tgt := 51) C dX3_canBeReached_4 (by decide) (fun c_1 => ?_) (fun c_1 => ?_)
    · have hok := hok.1 c_1
      refine zs_aload_n (k := 0) C dX3_canBeReached_7 rfl rfl ?_
      refine gC_S_workers C lkX3_17 dX3_canBeReached_8 ?_
      refine zs_iload_n (k := 2) C dX3_canBeReached_11 rfl rfl ?_
      obtain ⟨h_2, hok⟩ := hok
      refine aC_workers C h_2 dX3_canBeReached_12 ?_
      refine zs_astore_n (lv' := [(3, .ref (ad (68 + x2.toNatClampNeg))), (0, .ref (ad 0)), (1, .ref (ad (4 + k1))), (2, .int x2)]) C dX3_canBeReached_13 rfl (by decide) rfl ?_
      refine zs_aload_n (k := 0) C dX3_canBeReached_14 rfl rfl ?_
      refine gC_Worker_place C (zs_lt h_2) lkX3_50 dX3_canBeReached_15 ?_
      refine zs_if_eqP (tgt := 45) C dX3_canBeReached_18 (by decide) (fun c_3 => ?_) (fun c_3 => ?_)
      · have hok := hok.1 c_3
        refine zs_iinc (k := 3) (v := x2 + 1) (lv' := [(2, .int (x2 + 1)), (3, .ref (ad (68 + x2.toNatClampNeg))), (0, .ref (ad 0)), (1, .ref (ad (4 + k1)))]) C dX3_canBeReached_45 rfl rfl (by decide) rfl ?_
        refine zs_goto (tgt := 2) C dX3_canBeReached_48 (by decide) ?_
        exact zs_sub [2, 3, 0] rfl (ih σ k1 (x2 + 1) hk1 hok)
      · have hok := hok.2 c_3
        refine zs_aload_n (k := 0) C dX3_canBeReached_21 rfl rfl ?_
        refine gC_Worker_low C (zs_lt h_2) lkX3_71 dX3_canBeReached_22 ?_
        refine zs_aload_n (k := 2) C dX3_canBeReached_25 rfl rfl ?_
        refine gC_Node_died C hk1 lkX3_130 dX3_canBeReached_26 ?_
        refine zs_icmp_gtP (tgt := 45) C dX3_canBeReached_29 (by decide) (fun c_4 => ?_) (fun c_4 => ?_)
        · have hok := hok.1 c_4
          refine zs_iinc (k := 3) (v := x2 + 1) (lv' := [(2, .int (x2 + 1)), (3, .ref (ad (68 + x2.toNatClampNeg))), (0, .ref (ad 0)), (1, .ref (ad (4 + k1)))]) C dX3_canBeReached_45 rfl rfl (by decide) rfl ?_
          refine zs_goto (tgt := 2) C dX3_canBeReached_48 (by decide) ?_
          exact zs_sub [2, 3, 0] rfl (ih σ k1 (x2 + 1) hk1 hok)
        · have hok := hok.2 c_4
          refine zs_aload_n (k := 2) C dX3_canBeReached_32 rfl rfl ?_
          refine gC_Node_born C hk1 lkX3_127 dX3_canBeReached_33 ?_
          refine zs_aload_n (k := 0) C dX3_canBeReached_36 rfl rfl ?_
          refine gC_Worker_high C (zs_lt h_2) lkX3_74 dX3_canBeReached_37 ?_
          refine zs_icmp_gtP (tgt := 45) C dX3_canBeReached_40 (by decide) (fun c_5 => ?_) (fun c_5 => ?_)
          · have hok := hok.1 c_5
            refine zs_iinc (k := 3) (v := x2 + 1) (lv' := [(2, .int (x2 + 1)), (3, .ref (ad (68 + x2.toNatClampNeg))), (0, .ref (ad 0)), (1, .ref (ad (4 + k1)))]) C dX3_canBeReached_45 rfl rfl (by decide) rfl ?_
            refine zs_goto (tgt := 2) C dX3_canBeReached_48 (by decide) ?_
            exact zs_sub [2, 3, 0] rfl (ih σ k1 (x2 + 1) hk1 hok)
          · have hok := hok.2 c_5
            refine zs_iconst (v := 1) C dX3_canBeReached_43 (by decide) ?_
            exact zs_zret C hr rfl dX3_canBeReached_44
    · have hok := hok.2 c_1
      refine zs_iconst (v := 0) C dX3_canBeReached_51 (by decide) ?_
      exact zs_zret C hr rfl dX3_canBeReached_52
def fr_X3_canBeReached (σ : zs_T) (k1 : Nat) : Int32 := (fr_X3_canBeReached_L2 5 σ k1 0)
def ok_X3_canBeReached (σ : zs_T) (k1 : Nat) : Prop := (ok_X3_canBeReached_L2 5 σ k1 0)
set_option maxHeartbeats 4000000 in
set_option maxRecDepth 100000 in
theorem m_X3_canBeReached {l : Launch} {D : va_G} {cI cN cW : ClassId} {ad : Nat → Nat} (hJ : zs_J 88 ad) (d : Nat) (σ : zs_T) (k1 : Nat) (hk1 : k1 < 64) (hok : ok_X3_canBeReached σ k1) : zs_M l D vwCl (tysC cI cN cW) 88 ad (wC cI cN cW ad) yX3_canBeReached (Cond.code yX3_canBeReached cX3_canBeReached 4 (some .boolean) :: zw_G) (zw_rm (d)) [.ref (ad 0), .ref (ad (4 + k1))] zs_vi σ (σ, fr_X3_canBeReached σ k1) := by
  refine zs_ofZ (cc := cX3_canBeReached) (nL := 4) (ret := (some .boolean)) (lv0 := [(0, .ref (ad 0)), (1, .ref (ad (4 + k1)))]) (by decide) rfl hJ (Nat.le_of_ble_eq_true rfl) rfl ?_
  intro p e s m args below meth c C hr
  unfold ok_X3_canBeReached at hok
  unfold fr_X3_canBeReached
  refine zs_iconst (v := 0) C dX3_canBeReached_0 (by decide) ?_
  refine zs_istore_n (lv' := [(2, .int 0), (0, .ref (ad 0)), (1, .ref (ad (4 + k1)))]) C dX3_canBeReached_1 rfl (by decide) rfl ?_
  exact zs_sub [1, 2, 0] rfl (lp_X3_canBeReached_L2 C hr d 5 σ k1 0 hk1 hok)

def fr_X3_countNodes_L4 : Nat → zs_T → Int32 → Int32 → Int32 → Int32
  | 0, σ, _, _, _ => 0
  | n + 1, σ, x1, x2, x3 => (if x3 < 64 then (if σ 0 x3.toNatClampNeg = x1 then (fr_X3_countNodes_L4 n σ x1 (x2 + 1) (x3 + 1)) else (fr_X3_countNodes_L4 n σ x1 x2 (x3 + 1))) else x2)
def ok_X3_countNodes_L4 : Nat → zs_T → Int32 → Int32 → Int32 → Prop
  | 0, _, _, _, _ => False
  | n + 1, σ, x1, x2, x3 => (x3 < 64 → vp_in x3 64 ∧ ((σ 0 x3.toNatClampNeg = x1 → (ok_X3_countNodes_L4 n σ x1 (x2 + 1) (x3 + 1))) ∧ (¬ (σ 0 x3.toNatClampNeg = x1) → (ok_X3_countNodes_L4 n σ x1 x2 (x3 + 1))))) ∧ (¬ (x3 < 64) → True)
set_option maxHeartbeats 4000000 in
set_option maxRecDepth 100000 in
theorem lp_X3_countNodes_L4 {p : Program} {l : Launch} {e : Env} {s : State} {m : MethodId} {args : Array Value} {below : List Frame} {meth : Method} {c : Code} {D : va_G} {cI cN cW : ClassId} {ad : Nat → Nat} (C : zs_C p s m args meth c cX3_countNodes 4 (Cond.code yX3_countNodes cX3_countNodes 4 (some .int) :: zw_G) yX3_countNodes.cls D vwCl (tysC cI cN cW) 88 ad) (hr : meth.sig.returnType = (some .int)) (d : Nat) : ∀ (n : Nat) (σ : zs_T) (x1 : Int32) (x2 : Int32) (x3 : Int32), ok_X3_countNodes_L4 n σ x1 x2 x3 → zs_Z p l e (zw_rm (d)) s m args below meth c D vwCl 88 ad (wC cI cN cW ad) 4 zs_vi (σ, fr_X3_countNodes_L4 n σ x1 x2 x3) σ 4 [(0, .ref (ad 0)), (1, .int x1), (2, .int x2), (3, .int x3)] [] := by
  have hJ := C.2.2.1
  intro n
  induction n with
  | zero => intro σ x1 x2 x3  hok; exact hok.elim
  | succ n ih =>
    intro σ x1 x2 x3  hok
    rw [ok_X3_countNodes_L4] at hok
    rw [fr_X3_countNodes_L4]
    refine zs_iload_n (k := 3) C dX3_countNodes_4 rfl rfl ?_
    refine zs_bipush (v := 64) C dX3_countNodes_5 (by decide) ?_
    refine zs_icmp_geP (tgt := 32) C dX3_countNodes_7 (by decide) (fun c_1 => ?_) (fun c_1 => ?_)
    · have hok := hok.1 c_1
      refine zs_aload_n (k := 0) C dX3_countNodes_10 rfl rfl ?_
      refine gC_S_nodes C lkX3_11 dX3_countNodes_11 ?_
      refine zs_iload_n (k := 3) C dX3_countNodes_14 rfl rfl ?_
      obtain ⟨h_2, hok⟩ := hok
      refine aC_nodes C h_2 dX3_countNodes_15 ?_
      refine gC_Node_state C (zs_lt h_2) lkX3_108 dX3_countNodes_16 ?_
      refine zs_iload_n (k := 1) C dX3_countNodes_19 rfl rfl ?_
      refine zs_icmp_neP (tgt := 26) C dX3_countNodes_20 (by decide) (fun c_3 => ?_) (fun c_3 => ?_)
      · have hok := hok.1 c_3
        refine zs_iinc (k := 2) (v := x2 + 1) (lv' := [(2, .int (x2 + 1)), (0, .ref (ad 0)), (1, .int x1), (3, .int x3)]) C dX3_countNodes_23 rfl rfl (by decide) rfl ?_
        refine zs_iinc (k := 3) (v := x3 + 1) (lv' := [(3, .int (x3 + 1)), (2, .int (x2 + 1)), (0, .ref (ad 0)), (1, .int x1)]) C dX3_countNodes_26 rfl rfl (by decide) rfl ?_
        refine zs_goto (tgt := 4) C dX3_countNodes_29 (by decide) ?_
        exact zs_sub [2, 3, 1, 0] rfl (ih σ x1 (x2 + 1) (x3 + 1)  hok)
      · have hok := hok.2 c_3
        refine zs_iinc (k := 3) (v := x3 + 1) (lv' := [(3, .int (x3 + 1)), (0, .ref (ad 0)), (1, .int x1), (2, .int x2)]) C dX3_countNodes_26 rfl rfl (by decide) rfl ?_
        refine zs_goto (tgt := 4) C dX3_countNodes_29 (by decide) ?_
        exact zs_sub [1, 2, 3, 0] rfl (ih σ x1 x2 (x3 + 1)  hok)
    · have hok := hok.2 c_1
      refine zs_iload_n (k := 2) C dX3_countNodes_32 rfl rfl ?_
      exact zs_iret C hr dX3_countNodes_33
def fr_X3_countNodes (σ : zs_T) (x1 : Int32) : Int32 := (fr_X3_countNodes_L4 65 σ x1 0 0)
def ok_X3_countNodes (σ : zs_T) (x1 : Int32) : Prop := (ok_X3_countNodes_L4 65 σ x1 0 0)
set_option maxHeartbeats 4000000 in
set_option maxRecDepth 100000 in
theorem m_X3_countNodes {l : Launch} {D : va_G} {cI cN cW : ClassId} {ad : Nat → Nat} (hJ : zs_J 88 ad) (d : Nat) (σ : zs_T) (x1 : Int32) (hok : ok_X3_countNodes σ x1) : zs_M l D vwCl (tysC cI cN cW) 88 ad (wC cI cN cW ad) yX3_countNodes (Cond.code yX3_countNodes cX3_countNodes 4 (some .int) :: zw_G) (zw_rm (d)) [.ref (ad 0), .int x1] zs_vi σ (σ, fr_X3_countNodes σ x1) := by
  refine zs_ofZ (cc := cX3_countNodes) (nL := 4) (ret := (some .int)) (lv0 := [(0, .ref (ad 0)), (1, .int x1)]) (by decide) rfl hJ (Nat.le_of_ble_eq_true rfl) rfl ?_
  intro p e s m args below meth c C hr
  unfold ok_X3_countNodes at hok
  unfold fr_X3_countNodes
  refine zs_iconst (v := 0) C dX3_countNodes_0 (by decide) ?_
  refine zs_istore_n (lv' := [(2, .int 0), (0, .ref (ad 0)), (1, .int x1)]) C dX3_countNodes_1 rfl (by decide) rfl ?_
  refine zs_iconst (v := 0) C dX3_countNodes_2 (by decide) ?_
  refine zs_istore_n (lv' := [(3, .int 0), (2, .int 0), (0, .ref (ad 0)), (1, .int x1)]) C dX3_countNodes_3 rfl (by decide) rfl ?_
  exact zs_sub [2, 3, 1, 0] rfl (lp_X3_countNodes_L4 C hr d 65 σ x1 0 0  hok)

def fn_X3_takeFreeNode_L10 : Nat → zs_T → Nat → Int32 → Int32 → zs_O
  | 0, σ, _, _, _ => (σ, 0)
  | n + 1, σ, p1, x2, x3 => (if x3 < 64 then (if σ 0 x3.toNatClampNeg = 0 then (if x2 = 0 then (if x2 = 0 then ((fn_X0_appear σ x3.toNatClampNeg (fr_X3_wantedOrder σ p1) (-1) 0 (σ 34 0)).1, x3) else ((fn_X0_appear σ x3.toNatClampNeg (fr_X3_wantedOrder σ p1) (-1) (σ 13 p1) (σ 34 0)).1, x3)) else (if x2 = 0 then ((fn_X0_appear σ x3.toNatClampNeg (fr_X3_wantedOrder σ p1) (σ 12 p1) 0 (σ 34 0)).1, x3) else ((fn_X0_appear σ x3.toNatClampNeg (fr_X3_wantedOrder σ p1) (σ 12 p1) (σ 13 p1) (σ 34 0)).1, x3))) else (fn_X3_takeFreeNode_L10 n σ p1 x2 (x3 + 1))) else (σ, (-1)))
def ok_X3_takeFreeNode_L10 : Nat → zs_T → Nat → Int32 → Int32 → Prop
  | 0, _, _, _, _ => False
  | n + 1, σ, p1, x2, x3 => (x3 < 64 → vp_in x3 64 ∧ ((σ 0 x3.toNatClampNeg = 0 → vp_in x3 64 ∧ (ok_X3_wantedOrder σ p1 ∧ ((x2 = 0 → (x2 = 0 → ok_X0_appear σ x3.toNatClampNeg (fr_X3_wantedOrder σ p1) (-1) 0 (σ 34 0) ∧ (True)) ∧ (¬ (x2 = 0) → ok_X0_appear σ x3.toNatClampNeg (fr_X3_wantedOrder σ p1) (-1) (σ 13 p1) (σ 34 0) ∧ (True))) ∧ (¬ (x2 = 0) → (x2 = 0 → ok_X0_appear σ x3.toNatClampNeg (fr_X3_wantedOrder σ p1) (σ 12 p1) 0 (σ 34 0) ∧ (True)) ∧ (¬ (x2 = 0) → ok_X0_appear σ x3.toNatClampNeg (fr_X3_wantedOrder σ p1) (σ 12 p1) (σ 13 p1) (σ 34 0) ∧ (True)))))) ∧ (¬ (σ 0 x3.toNatClampNeg = 0) → (ok_X3_takeFreeNode_L10 n σ p1 x2 (x3 + 1))))) ∧ (¬ (x3 < 64) → True)
set_option maxHeartbeats 4000000 in
set_option maxRecDepth 100000 in
theorem lp_X3_takeFreeNode_L10 {p : Program} {l : Launch} {e : Env} {s : State} {m : MethodId} {args : Array Value} {below : List Frame} {meth : Method} {c : Code} {D : va_G} {cI cN cW : ClassId} {ad : Nat → Nat} (C : zs_C p s m args meth c cX3_takeFreeNode 4 (Cond.code yX3_takeFreeNode cX3_takeFreeNode 4 (some .int) :: zw_G) yX3_takeFreeNode.cls D vwCl (tysC cI cN cW) 88 ad) (hr : meth.sig.returnType = (some .int)) (d : Nat) : ∀ (n : Nat) (σ : zs_T) (p1 : Nat) (x2 : Int32) (x3 : Int32) (hp1 : p1 < 4), ok_X3_takeFreeNode_L10 n σ p1 x2 x3 → zs_Z p l e (zw_rm (d + 3)) s m args below meth c D vwCl 88 ad (wC cI cN cW ad) 4 zs_vi (fn_X3_takeFreeNode_L10 n σ p1 x2 x3) σ 10 [(0, .ref (ad 0)), (1, .ref (ad (68 + p1))), (2, .int x2), (3, .int x3)] [] := by
  have hJ := C.2.2.1
  intro n
  induction n with
  | zero => intro σ p1 x2 x3 hp1 hok; exact hok.elim
  | succ n ih =>
    intro σ p1 x2 x3 hp1 hok
    rw [ok_X3_takeFreeNode_L10] at hok
    rw [fn_X3_takeFreeNode_L10]
    refine zs_iload_n (k := 3) C dX3_takeFreeNode_10 rfl rfl ?_
    refine zs_bipush (v := 64) C dX3_takeFreeNode_11 (by decide) ?_
    refine zs_icmp_ge (tgt := 77) C dX3_takeFreeNode_13 (by decide) (fun c_1 => ?_) (fun c_1 => ?_)
    · have hok := hok.1 c_1
      refine zs_aload_n (k := 0) C dX3_takeFreeNode_16 rfl rfl ?_
      refine gC_S_nodes C lkX3_11 dX3_takeFreeNode_17 ?_
      refine zs_iload_n (k := 3) C dX3_takeFreeNode_20 rfl rfl ?_
      obtain ⟨h_2, hok⟩ := hok
      refine aC_nodes C h_2 dX3_takeFreeNode_21 ?_
      refine gC_Node_state C (zs_lt h_2) lkX3_108 dX3_takeFreeNode_22 ?_
      refine zs_if_ne (tgt := 71) C dX3_takeFreeNode_25 (by decide) (fun c_3 => ?_) (fun c_3 => ?_)
      · have hok := hok.1 c_3
        refine zs_aload_n (k := 0) C dX3_takeFreeNode_28 rfl rfl ?_
        refine gC_S_nodes C lkX3_11 dX3_takeFreeNode_29 ?_
        refine zs_iload_n (k := 3) C dX3_takeFreeNode_32 rfl rfl ?_
        obtain ⟨h_4, hok⟩ := hok
        refine aC_nodes C h_4 dX3_takeFreeNode_33 ?_
        refine zs_aload_n (k := 1) C dX3_takeFreeNode_34 rfl rfl ?_
        obtain ⟨h_5, hok⟩ := hok
        refine zk_callSi (As := [.ref (ad (68 + p1))]) (rest := [.ref (ad (4 + x3.toNatClampNeg))]) C pk_X3_wantedOrder (by decide) lkX3_218 (m_X3_wantedOrder hJ d σ p1 hp1 h_5) rfl rfl (Nat.le_of_ble_eq_true rfl) dX3_takeFreeNode_35 ?_
        refine zs_iload_n (k := 2) C dX3_takeFreeNode_38 rfl rfl ?_
        refine zs_if_eq (tgt := 49) C dX3_takeFreeNode_39 (by decide) (fun c_6 => ?_) (fun c_6 => ?_)
        · have hok := hok.1 c_6
          refine zs_iconst (v := (-1)) C dX3_takeFreeNode_49 (by decide) ?_
          refine zs_iload_n (k := 2) C dX3_takeFreeNode_50 rfl rfl ?_
          refine zs_if_eq (tgt := 61) C dX3_takeFreeNode_51 (by decide) (fun c_7 => ?_) (fun c_7 => ?_)
          · have hok := hok.1 c_7
            refine zs_iconst (v := 0) C dX3_takeFreeNode_61 (by decide) ?_
            refine zs_aload_n (k := 0) C dX3_takeFreeNode_62 rfl rfl ?_
            refine gC_S_era C lkX3_32 dX3_takeFreeNode_63 ?_
            obtain ⟨h_8, hok⟩ := hok
            refine zk_callVv (As := [.int (fr_X3_wantedOrder σ p1), .int (-1), .int 0, .int (σ 34 0)]) (rest := []) C pk_X0_appear (by decide) lkX3_41 (m_X0_appear hJ (d + 1) σ x3.toNatClampNeg (fr_X3_wantedOrder σ p1) (-1) 0 (σ 34 0) (zs_lt h_4) h_8) (zc_recvNode (zs_lt h_4)) rfl rfl rfl (Nat.le_of_ble_eq_true rfl) dX3_takeFreeNode_66 ?_
            refine zs_iload_n (k := 3) C dX3_takeFreeNode_69 rfl rfl ?_
            exact zs_iret C hr dX3_takeFreeNode_70
          · have hok := hok.2 c_7
            refine zs_aload_n (k := 1) C dX3_takeFreeNode_54 rfl rfl ?_
            refine gC_Worker_value C hp1 lkX3_286 dX3_takeFreeNode_55 ?_
            refine zs_goto (tgt := 62) C dX3_takeFreeNode_58 (by decide) ?_
            refine zs_aload_n (k := 0) C dX3_takeFreeNode_62 rfl rfl ?_
            refine gC_S_era C lkX3_32 dX3_takeFreeNode_63 ?_
            obtain ⟨h_9, hok⟩ := hok
            refine zk_callVv (As := [.int (fr_X3_wantedOrder σ p1), .int (-1), .int (σ 13 p1), .int (σ 34 0)]) (rest := []) C pk_X0_appear (by decide) lkX3_41 (m_X0_appear hJ (d + 1) σ x3.toNatClampNeg (fr_X3_wantedOrder σ p1) (-1) (σ 13 p1) (σ 34 0) (zs_lt h_4) h_9) (zc_recvNode (zs_lt h_4)) rfl rfl rfl (Nat.le_of_ble_eq_true rfl) dX3_takeFreeNode_66 ?_
            refine zs_iload_n (k := 3) C dX3_takeFreeNode_69 rfl rfl ?_
            exact zs_iret C hr dX3_takeFreeNode_70
        · have hok := hok.2 c_6
          refine zs_aload_n (k := 1) C dX3_takeFreeNode_42 rfl rfl ?_
          refine gC_Worker_key C hp1 lkX3_180 dX3_takeFreeNode_43 ?_
          refine zs_goto (tgt := 50) C dX3_takeFreeNode_46 (by decide) ?_
          refine zs_iload_n (k := 2) C dX3_takeFreeNode_50 rfl rfl ?_
          refine zs_if_eq (tgt := 61) C dX3_takeFreeNode_51 (by decide) (fun c_10 => ?_) (fun c_10 => ?_)
          · have hok := hok.1 c_10
            refine zs_iconst (v := 0) C dX3_takeFreeNode_61 (by decide) ?_
            refine zs_aload_n (k := 0) C dX3_takeFreeNode_62 rfl rfl ?_
            refine gC_S_era C lkX3_32 dX3_takeFreeNode_63 ?_
            obtain ⟨h_11, hok⟩ := hok
            refine zk_callVv (As := [.int (fr_X3_wantedOrder σ p1), .int (σ 12 p1), .int 0, .int (σ 34 0)]) (rest := []) C pk_X0_appear (by decide) lkX3_41 (m_X0_appear hJ (d + 1) σ x3.toNatClampNeg (fr_X3_wantedOrder σ p1) (σ 12 p1) 0 (σ 34 0) (zs_lt h_4) h_11) (zc_recvNode (zs_lt h_4)) rfl rfl rfl (Nat.le_of_ble_eq_true rfl) dX3_takeFreeNode_66 ?_
            refine zs_iload_n (k := 3) C dX3_takeFreeNode_69 rfl rfl ?_
            exact zs_iret C hr dX3_takeFreeNode_70
          · have hok := hok.2 c_10
            refine zs_aload_n (k := 1) C dX3_takeFreeNode_54 rfl rfl ?_
            refine gC_Worker_value C hp1 lkX3_286 dX3_takeFreeNode_55 ?_
            refine zs_goto (tgt := 62) C dX3_takeFreeNode_58 (by decide) ?_
            refine zs_aload_n (k := 0) C dX3_takeFreeNode_62 rfl rfl ?_
            refine gC_S_era C lkX3_32 dX3_takeFreeNode_63 ?_
            obtain ⟨h_12, hok⟩ := hok
            refine zk_callVv (As := [.int (fr_X3_wantedOrder σ p1), .int (σ 12 p1), .int (σ 13 p1), .int (σ 34 0)]) (rest := []) C pk_X0_appear (by decide) lkX3_41 (m_X0_appear hJ (d + 1) σ x3.toNatClampNeg (fr_X3_wantedOrder σ p1) (σ 12 p1) (σ 13 p1) (σ 34 0) (zs_lt h_4) h_12) (zc_recvNode (zs_lt h_4)) rfl rfl rfl (Nat.le_of_ble_eq_true rfl) dX3_takeFreeNode_66 ?_
            refine zs_iload_n (k := 3) C dX3_takeFreeNode_69 rfl rfl ?_
            exact zs_iret C hr dX3_takeFreeNode_70
      · have hok := hok.2 c_3
        refine zs_iinc (k := 3) (v := x3 + 1) (lv' := [(3, .int (x3 + 1)), (0, .ref (ad 0)), (1, .ref (ad (68 + p1))), (2, .int x2)]) C dX3_takeFreeNode_71 rfl rfl (by decide) rfl ?_
        refine zs_goto (tgt := 10) C dX3_takeFreeNode_74 (by decide) ?_
        exact zs_sub [1, 2, 3, 0] rfl (ih σ p1 x2 (x3 + 1) hp1 hok)
    · have hok := hok.2 c_1
      refine zs_iconst (v := (-1)) C dX3_takeFreeNode_77 (by decide) ?_
      exact zs_iret C hr dX3_takeFreeNode_78
def fn_X3_takeFreeNode (σ : zs_T) (p1 : Nat) : zs_O := (fn_X3_takeFreeNode_L10 65 σ p1 (fr_X1_isEmpty σ p1) 0)
def ok_X3_takeFreeNode (σ : zs_T) (p1 : Nat) : Prop := (ok_X3_takeFreeNode_L10 65 σ p1 (fr_X1_isEmpty σ p1) 0)
set_option maxHeartbeats 4000000 in
set_option maxRecDepth 100000 in
theorem m_X3_takeFreeNode {l : Launch} {D : va_G} {cI cN cW : ClassId} {ad : Nat → Nat} (hJ : zs_J 88 ad) (d : Nat) (σ : zs_T) (p1 : Nat) (hp1 : p1 < 4) (hok : ok_X3_takeFreeNode σ p1) : zs_M l D vwCl (tysC cI cN cW) 88 ad (wC cI cN cW ad) yX3_takeFreeNode (Cond.code yX3_takeFreeNode cX3_takeFreeNode 4 (some .int) :: zw_G) (zw_rm (d + 3)) [.ref (ad 0), .ref (ad (68 + p1))] zs_vi σ (fn_X3_takeFreeNode σ p1) := by
  refine zs_ofZ (cc := cX3_takeFreeNode) (nL := 4) (ret := (some .int)) (lv0 := [(0, .ref (ad 0)), (1, .ref (ad (68 + p1)))]) (by decide) rfl hJ (Nat.le_of_ble_eq_true rfl) rfl ?_
  intro p e s m args below meth c C hr
  unfold ok_X3_takeFreeNode at hok
  unfold fn_X3_takeFreeNode
  refine zs_aload_n (k := 1) C dX3_takeFreeNode_0 rfl rfl ?_
  refine gC_Worker_stack C hp1 lkX3_86 dX3_takeFreeNode_1 ?_
  refine zk_callVi (As := []) (rest := []) C pk_X1_isEmpty (by decide) lkX3_222 (m_X1_isEmpty hJ (d + 2) σ p1 (zc_8a hp1)) (zc_recvNum (zc_8a hp1)) rfl rfl rfl (Nat.le_of_ble_eq_true rfl) dX3_takeFreeNode_4 ?_
  refine zs_istore_n (lv' := [(2, .int (fr_X1_isEmpty σ p1)), (0, .ref (ad 0)), (1, .ref (ad (68 + p1)))]) C dX3_takeFreeNode_7 rfl (by decide) rfl ?_
  refine zs_iconst (v := 0) C dX3_takeFreeNode_8 (by decide) ?_
  refine zs_istore_n (lv' := [(3, .int 0), (2, .int (fr_X1_isEmpty σ p1)), (0, .ref (ad 0)), (1, .ref (ad (68 + p1)))]) C dX3_takeFreeNode_9 rfl (by decide) rfl ?_
  exact zs_sub [2, 3, 1, 0] rfl (lp_X3_takeFreeNode_L10 C hr d 65 σ p1 (fr_X1_isEmpty σ p1) 0 hp1 hok)
end
section
def fn_X3_enter (σ : zs_T) (p1 : Nat) : zs_O := ((zs_u (fn_X1_cutTo (zs_u (zs_u (zs_u σ 14 p1 (σ 34 0)) 15 p1 ((zs_u σ 14 p1 (σ 34 0)) 34 0)) 16 p1 ((fr_X3_hashOf (zs_u (zs_u σ 14 p1 (σ 34 0)) 15 p1 ((zs_u σ 14 p1 (σ 34 0)) 34 0)) ((zs_u (zs_u σ 14 p1 (σ 34 0)) 15 p1 ((zs_u σ 14 p1 (σ 34 0)) 34 0)) 12 p1)) &&& (((zs_u (zs_u σ 14 p1 (σ 34 0)) 15 p1 ((zs_u σ 14 p1 (σ 34 0)) 34 0)) 32 0) - 1))) p1 0).1 10 p1 2), 0)
set_option maxHeartbeats 4000000 in
set_option maxRecDepth 100000 in
theorem m_X3_enter {l : Launch} {D : va_G} {cI cN cW : ClassId} {ad : Nat → Nat} (hJ : zs_J 88 ad) (d : Nat) (σ : zs_T) (p1 : Nat) (hp1 : p1 < 4) : zs_M l D vwCl (tysC cI cN cW) 88 ad (wC cI cN cW ad) yX3_enter (Cond.code yX3_enter cX3_enter 2 none :: zw_G) (zw_rm (d + 1)) [.ref (ad 0), .ref (ad (68 + p1))] zs_vv σ (fn_X3_enter σ p1) := by
  refine zs_ofZ (cc := cX3_enter) (nL := 2) (ret := none) (lv0 := [(0, .ref (ad 0)), (1, .ref (ad (68 + p1)))]) (by decide) rfl hJ (Nat.le_of_ble_eq_true rfl) rfl ?_
  intro p e s m args below meth c C hr
  unfold fn_X3_enter
  refine zs_aload_n (k := 1) C dX3_enter_0 rfl rfl ?_
  refine zs_aload_n (k := 0) C dX3_enter_1 rfl rfl ?_
  refine gC_S_era C lkX3_32 dX3_enter_2 ?_
  refine pC_Worker_low C hp1 lkX3_71 dX3_enter_5 ?_
  refine zs_aload_n (k := 1) C dX3_enter_8 rfl rfl ?_
  refine zs_aload_n (k := 0) C dX3_enter_9 rfl rfl ?_
  refine gC_S_era C lkX3_32 dX3_enter_10 ?_
  refine pC_Worker_high C hp1 lkX3_74 dX3_enter_13 ?_
  refine zs_aload_n (k := 1) C dX3_enter_16 rfl rfl ?_
  refine zs_aload_n (k := 1) C dX3_enter_17 rfl rfl ?_
  refine gC_Worker_key C hp1 lkX3_180 dX3_enter_18 ?_
  refine zk_callSi (As := [.int ((zs_u (zs_u σ 14 p1 (σ 34 0)) 15 p1 ((zs_u σ 14 p1 (σ 34 0)) 34 0)) 12 p1)]) (rest := [.ref (ad (68 + p1))]) C pk_X3_hashOf (by decide) lkX3_181 (m_X3_hashOf hJ d (zs_u (zs_u σ 14 p1 (σ 34 0)) 15 p1 ((zs_u σ 14 p1 (σ 34 0)) 34 0)) ((zs_u (zs_u σ 14 p1 (σ 34 0)) 15 p1 ((zs_u σ 14 p1 (σ 34 0)) 34 0)) 12 p1)) rfl rfl (Nat.le_of_ble_eq_true rfl) dX3_enter_21 ?_
  refine zs_aload_n (k := 0) C dX3_enter_24 rfl rfl ?_
  refine gC_S_size C lkX3_25 dX3_enter_25 ?_
  refine zs_iconst (v := 1) C dX3_enter_28 (by decide) ?_
  refine zs_isub C dX3_enter_29 ?_
  refine zs_iand C dX3_enter_30 ?_
  refine pC_Worker_bucket C hp1 lkX3_184 dX3_enter_31 ?_
  refine zs_aload_n (k := 1) C dX3_enter_34 rfl rfl ?_
  refine gC_Worker_stack C hp1 lkX3_86 dX3_enter_35 ?_
  refine zs_iconst (v := 0) C dX3_enter_38 (by decide) ?_
  refine zk_callVv (As := [.int 0]) (rest := []) C pk_X1_cutTo (by decide) lkX3_187 (m_X1_cutTo hJ d (zs_u (zs_u (zs_u σ 14 p1 (σ 34 0)) 15 p1 ((zs_u σ 14 p1 (σ 34 0)) 34 0)) 16 p1 ((fr_X3_hashOf (zs_u (zs_u σ 14 p1 (σ 34 0)) 15 p1 ((zs_u σ 14 p1 (σ 34 0)) 34 0)) ((zs_u (zs_u σ 14 p1 (σ 34 0)) 15 p1 ((zs_u σ 14 p1 (σ 34 0)) 34 0)) 12 p1)) &&& (((zs_u (zs_u σ 14 p1 (σ 34 0)) 15 p1 ((zs_u σ 14 p1 (σ 34 0)) 34 0)) 32 0) - 1))) p1 0 (zc_8a hp1)) (zc_recvNum (zc_8a hp1)) rfl rfl rfl (Nat.le_of_ble_eq_true rfl) dX3_enter_39 ?_
  refine zs_aload_n (k := 1) C dX3_enter_42 rfl rfl ?_
  refine zs_iconst (v := 2) C dX3_enter_43 (by decide) ?_
  refine pC_Worker_place C hp1 lkX3_50 dX3_enter_44 ?_
  exact zs_vret C hr dX3_enter_47

def fn_X3_seekBucket (σ : zs_T) (p1 : Nat) : zs_O := (if fr_X3_nodeOfBucket σ (σ 16 p1) = (-1) then ((zs_u (fn_X1_add σ p1 (σ 16 p1)).1 16 p1 (fr_X3_parentOf ((fn_X1_add σ p1 (σ 16 p1)).1) (((fn_X1_add σ p1 (σ 16 p1)).1) 16 p1))), 0) else ((zs_u (zs_u σ 17 p1 (fr_X3_nodeOfBucket σ (σ 16 p1))) 10 p1 3), 0))
def ok_X3_seekBucket (σ : zs_T) (p1 : Nat) : Prop := (fr_X3_nodeOfBucket σ (σ 16 p1) = (-1) → ok_X1_add σ p1 (σ 16 p1) ∧ (ok_X3_parentOf ((fn_X1_add σ p1 (σ 16 p1)).1) (((fn_X1_add σ p1 (σ 16 p1)).1) 16 p1) ∧ (True))) ∧ (¬ (fr_X3_nodeOfBucket σ (σ 16 p1) = (-1)) → True)
set_option maxHeartbeats 4000000 in
set_option maxRecDepth 100000 in
theorem m_X3_seekBucket {l : Launch} {D : va_G} {cI cN cW : ClassId} {ad : Nat → Nat} (hJ : zs_J 88 ad) (d : Nat) (σ : zs_T) (p1 : Nat) (hp1 : p1 < 4) (hok : ok_X3_seekBucket σ p1) : zs_M l D vwCl (tysC cI cN cW) 88 ad (wC cI cN cW ad) yX3_seekBucket (Cond.code yX3_seekBucket cX3_seekBucket 3 none :: zw_G) (zw_rm (d + 2)) [.ref (ad 0), .ref (ad (68 + p1))] zs_vv σ (fn_X3_seekBucket σ p1) := by
  refine zs_ofZ (cc := cX3_seekBucket) (nL := 3) (ret := none) (lv0 := [(0, .ref (ad 0)), (1, .ref (ad (68 + p1)))]) (by decide) rfl hJ (Nat.le_of_ble_eq_true rfl) rfl ?_
  intro p e s m args below meth c C hr
  unfold ok_X3_seekBucket at hok
  unfold fn_X3_seekBucket
  refine zs_aload_n (k := 0) C dX3_seekBucket_0 rfl rfl ?_
  refine zs_aload_n (k := 1) C dX3_seekBucket_1 rfl rfl ?_
  refine gC_Worker_bucket C hp1 lkX3_184 dX3_seekBucket_2 ?_
  refine zk_callVi (As := [.int (σ 16 p1)]) (rest := []) C pk_X3_nodeOfBucket (by decide) lkX3_135 (m_X3_nodeOfBucket hJ d σ (σ 16 p1)) zc_recvS rfl rfl rfl (Nat.le_of_ble_eq_true rfl) dX3_seekBucket_5 ?_
  refine zs_istore_n (lv' := [(2, .int (fr_X3_nodeOfBucket σ (σ 16 p1))), (0, .ref (ad 0)), (1, .ref (ad (68 + p1)))]) C dX3_seekBucket_8 rfl (by decide) rfl ?_
  refine zs_iload_n (k := 0) C dX3_seekBucket_9 rfl rfl ?_
  refine zs_iconst (v := (-1)) C dX3_seekBucket_10 (by decide) ?_
  refine zs_icmp_eq (tgt := 27) C dX3_seekBucket_11 (by decide) (fun c_1 => ?_) (fun c_1 => ?_)
  · have hok := hok.1 c_1
    refine zs_aload_n (k := 2) C dX3_seekBucket_27 rfl rfl ?_
    refine gC_Worker_stack C hp1 lkX3_86 dX3_seekBucket_28 ?_
    refine zs_aload_n (k := 2) C dX3_seekBucket_31 rfl rfl ?_
    refine gC_Worker_bucket C hp1 lkX3_184 dX3_seekBucket_32 ?_
    obtain ⟨h_2, hok⟩ := hok
    refine zk_callVv (As := [.int (σ 16 p1)]) (rest := []) C pk_X1_add (by decide) lkX3_194 (m_X1_add hJ (d + 1) σ p1 (σ 16 p1) (zc_8a hp1) h_2) (zc_recvNum (zc_8a hp1)) rfl rfl rfl (Nat.le_of_ble_eq_true rfl) dX3_seekBucket_35 ?_
    refine zs_aload_n (k := 2) C dX3_seekBucket_38 rfl rfl ?_
    refine zs_aload_n (k := 2) C dX3_seekBucket_39 rfl rfl ?_
    refine gC_Worker_bucket C hp1 lkX3_184 dX3_seekBucket_40 ?_
    obtain ⟨h_3, hok⟩ := hok
    refine zk_callSi (As := [.int (((fn_X1_add σ p1 (σ 16 p1)).1) 16 p1)]) (rest := [.ref (ad (68 + p1))]) C pk_X3_parentOf (by decide) lkX3_197 (m_X3_parentOf hJ (d + 1) ((fn_X1_add σ p1 (σ 16 p1)).1) (((fn_X1_add σ p1 (σ 16 p1)).1) 16 p1) h_3) rfl rfl (Nat.le_of_ble_eq_true rfl) dX3_seekBucket_43 ?_
    refine pC_Worker_bucket C hp1 lkX3_184 dX3_seekBucket_46 ?_
    exact zs_vret C hr dX3_seekBucket_49
  · have hok := hok.2 c_1
    refine zs_aload_n (k := 2) C dX3_seekBucket_14 rfl rfl ?_
    refine zs_iload_n (k := 0) C dX3_seekBucket_15 rfl rfl ?_
    refine pC_Worker_start C hp1 lkX3_191 dX3_seekBucket_16 ?_
    refine zs_aload_n (k := 2) C dX3_seekBucket_19 rfl rfl ?_
    refine zs_iconst (v := 3) C dX3_seekBucket_20 (by decide) ?_
    refine pC_Worker_place C hp1 lkX3_50 dX3_seekBucket_21 ?_
    refine zs_goto (tgt := 49) C dX3_seekBucket_24 (by decide) ?_
    exact zs_vret C hr dX3_seekBucket_49

def fn_X3_loadStart (σ : zs_T) (p1 : Nat) : zs_O := (if (fn_X3_mayLoad σ p1).2 = 0 then ((fn_X3_mayLoad σ p1).1, 0) else ((zs_u (zs_u (zs_u (fn_X3_mayLoad σ p1).1 18 p1 (((fn_X3_mayLoad σ p1).1) 17 p1)) 19 p1 (fr_X3_nextOf (zs_u (fn_X3_mayLoad σ p1).1 18 p1 (((fn_X3_mayLoad σ p1).1) 17 p1)) ((zs_u (fn_X3_mayLoad σ p1).1 18 p1 (((fn_X3_mayLoad σ p1).1) 17 p1)) 17 p1))) 10 p1 4), 0))
set_option maxHeartbeats 4000000 in
set_option maxRecDepth 100000 in
theorem m_X3_loadStart {l : Launch} {D : va_G} {cI cN cW : ClassId} {ad : Nat → Nat} (hJ : zs_J 88 ad) (d : Nat) (σ : zs_T) (p1 : Nat) (hp1 : p1 < 4) : zs_M l D vwCl (tysC cI cN cW) 88 ad (wC cI cN cW ad) yX3_loadStart (Cond.code yX3_loadStart cX3_loadStart 2 none :: zw_G) (zw_rm (d + 2)) [.ref (ad 0), .ref (ad (68 + p1))] zs_vv σ (fn_X3_loadStart σ p1) := by
  refine zs_ofZ (cc := cX3_loadStart) (nL := 2) (ret := none) (lv0 := [(0, .ref (ad 0)), (1, .ref (ad (68 + p1)))]) (by decide) rfl hJ (Nat.le_of_ble_eq_true rfl) rfl ?_
  intro p e s m args below meth c C hr
  unfold fn_X3_loadStart
  refine zs_aload_n (k := 0) C dX3_loadStart_0 rfl rfl ?_
  refine zs_aload_n (k := 1) C dX3_loadStart_1 rfl rfl ?_
  refine zk_callVi (As := [.ref (ad (68 + p1))]) (rest := []) C pk_X3_mayLoad (by decide) lkX3_200 (m_X3_mayLoad hJ (d + 1) σ p1 hp1) zc_recvS rfl rfl rfl (Nat.le_of_ble_eq_true rfl) dX3_loadStart_2 ?_
  refine zs_if_ne (tgt := 9) C dX3_loadStart_5 (by decide) (fun c_1 => ?_) (fun c_1 => ?_)
  · exact zs_vret C hr dX3_loadStart_8
  · refine zs_aload_n (k := 1) C dX3_loadStart_9 rfl rfl ?_
    refine zs_aload_n (k := 1) C dX3_loadStart_10 rfl rfl ?_
    refine gC_Worker_start C hp1 lkX3_191 dX3_loadStart_11 ?_
    refine pC_Worker_prev C hp1 lkX3_89 dX3_loadStart_14 ?_
    refine zs_aload_n (k := 1) C dX3_loadStart_17 rfl rfl ?_
    refine zs_aload_n (k := 0) C dX3_loadStart_18 rfl rfl ?_
    refine zs_aload_n (k := 1) C dX3_loadStart_19 rfl rfl ?_
    refine gC_Worker_start C hp1 lkX3_191 dX3_loadStart_20 ?_
    refine zk_callVi (As := [.int ((zs_u (fn_X3_mayLoad σ p1).1 18 p1 (((fn_X3_mayLoad σ p1).1) 17 p1)) 17 p1)]) (rest := [.ref (ad (68 + p1))]) C pk_X3_nextOf (by decide) lkX3_204 (m_X3_nextOf hJ d (zs_u (fn_X3_mayLoad σ p1).1 18 p1 (((fn_X3_mayLoad σ p1).1) 17 p1)) ((zs_u (fn_X3_mayLoad σ p1).1 18 p1 (((fn_X3_mayLoad σ p1).1) 17 p1)) 17 p1)) zc_recvS rfl rfl rfl (Nat.le_of_ble_eq_true rfl) dX3_loadStart_23 ?_
    refine pC_Worker_cur C hp1 lkX3_92 dX3_loadStart_26 ?_
    refine zs_aload_n (k := 1) C dX3_loadStart_29 rfl rfl ?_
    refine zs_iconst (v := 4) C dX3_loadStart_30 (by decide) ?_
    refine pC_Worker_place C hp1 lkX3_50 dX3_loadStart_31 ?_
    exact zs_vret C hr dX3_loadStart_34

def fn_X3_searchOver (σ : zs_T) (p1 : Nat) (x2 : Int32) : zs_O := (if fr_X1_isEmpty σ p1 = 0 then (if x2 = 0 then ((zs_u (zs_u σ 23 p1 (σ 19 p1)) 10 p1 7), 0) else ((zs_u (zs_u σ 23 p1 (σ 19 p1)) 10 p1 9), 0)) else (if σ 24 p1 = 0 then (if σ 11 p1 = 0 then (if x2 = 0 then ((fn_X3_end σ p1 (-1)).1, 0) else ((fn_X3_end σ p1 (fr_X3_valueOf σ (σ 19 p1))).1, 0)) else (if σ 11 p1 = 1 then (if x2 = 0 then (if σ 11 p1 = 1 then ((zs_u σ 10 p1 7), 0) else (if x2 = 0 then ((fn_X3_end σ p1 (-1)).1, 0) else ((zs_u σ 10 p1 10), 0))) else ((fn_X3_end σ p1 0).1, 0)) else (if σ 11 p1 = 1 then ((zs_u σ 10 p1 7), 0) else (if x2 = 0 then ((fn_X3_end σ p1 (-1)).1, 0) else ((zs_u σ 10 p1 10), 0))))) else ((zs_u σ 10 p1 12), 0)))
set_option maxHeartbeats 4000000 in
set_option maxRecDepth 100000 in
theorem m_X3_searchOver {l : Launch} {D : va_G} {cI cN cW : ClassId} {ad : Nat → Nat} (hJ : zs_J 88 ad) (d : Nat) (σ : zs_T) (p1 : Nat) (x2 : Int32) (hp1 : p1 < 4) : zs_M l D vwCl (tysC cI cN cW) 88 ad (wC cI cN cW ad) yX3_searchOver (Cond.code yX3_searchOver cX3_searchOver 3 none :: zw_G) (zw_rm (d + 3)) [.ref (ad 0), .ref (ad (68 + p1)), .int x2] zs_vv σ (fn_X3_searchOver σ p1 x2) := by
  refine zs_ofZ (cc := cX3_searchOver) (nL := 3) (ret := none) (lv0 := [(0, .ref (ad 0)), (1, .ref (ad (68 + p1))), (2, .int x2)]) (by decide) rfl hJ (Nat.le_of_ble_eq_true rfl) rfl ?_
  intro p e s m args below meth c C hr
  unfold fn_X3_searchOver
  refine zs_aload_n (k := 1) C dX3_searchOver_0 rfl rfl ?_
  refine gC_Worker_stack C hp1 lkX3_86 dX3_searchOver_1 ?_
  refine zk_callVi (As := []) (rest := []) C pk_X1_isEmpty (by decide) lkX3_222 (m_X1_isEmpty hJ (d + 2) σ p1 (zc_8a hp1)) (zc_recvNum (zc_8a hp1)) rfl rfl rfl (Nat.le_of_ble_eq_true rfl) dX3_searchOver_4 ?_
  refine zs_if_ne (tgt := 36) C dX3_searchOver_7 (by decide) (fun c_1 => ?_) (fun c_1 => ?_)
  · refine zs_aload_n (k := 1) C dX3_searchOver_10 rfl rfl ?_
    refine zs_aload_n (k := 1) C dX3_searchOver_11 rfl rfl ?_
    refine gC_Worker_cur C hp1 lkX3_92 dX3_searchOver_12 ?_
    refine pC_Worker_bucketNode C hp1 lkX3_226 dX3_searchOver_15 ?_
    refine zs_aload_n (k := 1) C dX3_searchOver_18 rfl rfl ?_
    refine zs_iload_n (k := 2) C dX3_searchOver_19 rfl rfl ?_
    refine zs_if_eq (tgt := 28) C dX3_searchOver_20 (by decide) (fun c_2 => ?_) (fun c_2 => ?_)
    · refine zs_bipush (v := 7) C dX3_searchOver_28 (by decide) ?_
      refine pC_Worker_place C hp1 lkX3_50 dX3_searchOver_30 ?_
      refine zs_goto (tgt := 140) C dX3_searchOver_33 (by decide) ?_
      exact zs_vret C hr dX3_searchOver_140
    · refine zs_bipush (v := 9) C dX3_searchOver_23 (by decide) ?_
      refine zs_goto (tgt := 30) C dX3_searchOver_25 (by decide) ?_
      refine pC_Worker_place C hp1 lkX3_50 dX3_searchOver_30 ?_
      refine zs_goto (tgt := 140) C dX3_searchOver_33 (by decide) ?_
      exact zs_vret C hr dX3_searchOver_140
  · refine zs_aload_n (k := 1) C dX3_searchOver_36 rfl rfl ?_
    refine gC_Worker_cleans C hp1 lkX3_229 dX3_searchOver_37 ?_
    refine zs_if_eq (tgt := 52) C dX3_searchOver_40 (by decide) (fun c_3 => ?_) (fun c_3 => ?_)
    · refine zs_aload_n (k := 1) C dX3_searchOver_52 rfl rfl ?_
      refine gC_Worker_operation C hp1 lkX3_232 dX3_searchOver_53 ?_
      refine zs_if_ne (tgt := 83) C dX3_searchOver_56 (by decide) (fun c_4 => ?_) (fun c_4 => ?_)
      · refine zs_aload_n (k := 0) C dX3_searchOver_59 rfl rfl ?_
        refine zs_aload_n (k := 1) C dX3_searchOver_60 rfl rfl ?_
        refine zs_iload_n (k := 2) C dX3_searchOver_61 rfl rfl ?_
        refine zs_if_eq (tgt := 76) C dX3_searchOver_62 (by decide) (fun c_5 => ?_) (fun c_5 => ?_)
        · refine zs_iconst (v := (-1)) C dX3_searchOver_76 (by decide) ?_
          refine zk_callVv (As := [.ref (ad (68 + p1)), .int (-1)]) (rest := []) C pk_X3_end (by decide) lkX3_238 (m_X3_end hJ d σ p1 (-1) hp1) zc_recvS rfl rfl rfl (Nat.le_of_ble_eq_true rfl) dX3_searchOver_77 ?_
          refine zs_goto (tgt := 140) C dX3_searchOver_80 (by decide) ?_
          exact zs_vret C hr dX3_searchOver_140
        · refine zs_aload_n (k := 0) C dX3_searchOver_65 rfl rfl ?_
          refine zs_aload_n (k := 1) C dX3_searchOver_66 rfl rfl ?_
          refine gC_Worker_cur C hp1 lkX3_92 dX3_searchOver_67 ?_
          refine zk_callVi (As := [.int (σ 19 p1)]) (rest := [.ref (ad (68 + p1)), .ref (ad 0)]) C pk_X3_valueOf (by decide) lkX3_235 (m_X3_valueOf hJ (d + 1) σ (σ 19 p1)) zc_recvS rfl rfl rfl (Nat.le_of_ble_eq_true rfl) dX3_searchOver_70 ?_
          refine zs_goto (tgt := 77) C dX3_searchOver_73 (by decide) ?_
          refine zk_callVv (As := [.ref (ad (68 + p1)), .int (fr_X3_valueOf σ (σ 19 p1))]) (rest := []) C pk_X3_end (by decide) lkX3_238 (m_X3_end hJ d σ p1 (fr_X3_valueOf σ (σ 19 p1)) hp1) zc_recvS rfl rfl rfl (Nat.le_of_ble_eq_true rfl) dX3_searchOver_77 ?_
          refine zs_goto (tgt := 140) C dX3_searchOver_80 (by decide) ?_
          exact zs_vret C hr dX3_searchOver_140
      · refine zs_aload_n (k := 1) C dX3_searchOver_83 rfl rfl ?_
        refine gC_Worker_operation C hp1 lkX3_232 dX3_searchOver_84 ?_
        refine zs_iconst (v := 1) C dX3_searchOver_87 (by decide) ?_
        refine zs_icmp_ne (tgt := 104) C dX3_searchOver_88 (by decide) (fun c_6 => ?_) (fun c_6 => ?_)
        · refine zs_iload_n (k := 2) C dX3_searchOver_91 rfl rfl ?_
          refine zs_if_eq (tgt := 104) C dX3_searchOver_92 (by decide) (fun c_7 => ?_) (fun c_7 => ?_)
          · refine zs_aload_n (k := 1) C dX3_searchOver_104 rfl rfl ?_
            refine gC_Worker_operation C hp1 lkX3_232 dX3_searchOver_105 ?_
            refine zs_iconst (v := 1) C dX3_searchOver_108 (by decide) ?_
            refine zs_icmp_ne (tgt := 121) C dX3_searchOver_109 (by decide) (fun c_8 => ?_) (fun c_8 => ?_)
            · refine zs_aload_n (k := 1) C dX3_searchOver_112 rfl rfl ?_
              refine zs_bipush (v := 7) C dX3_searchOver_113 (by decide) ?_
              refine pC_Worker_place C hp1 lkX3_50 dX3_searchOver_115 ?_
              refine zs_goto (tgt := 140) C dX3_searchOver_118 (by decide) ?_
              exact zs_vret C hr dX3_searchOver_140
            · refine zs_iload_n (k := 2) C dX3_searchOver_121 rfl rfl ?_
              refine zs_if_eq (tgt := 134) C dX3_searchOver_122 (by decide) (fun c_9 => ?_) (fun c_9 => ?_)
              · refine zs_aload_n (k := 0) C dX3_searchOver_134 rfl rfl ?_
                refine zs_aload_n (k := 1) C dX3_searchOver_135 rfl rfl ?_
                refine zs_iconst (v := (-1)) C dX3_searchOver_136 (by decide) ?_
                refine zk_callVv (As := [.ref (ad (68 + p1)), .int (-1)]) (rest := []) C pk_X3_end (by decide) lkX3_238 (m_X3_end hJ d σ p1 (-1) hp1) zc_recvS rfl rfl rfl (Nat.le_of_ble_eq_true rfl) dX3_searchOver_137 ?_
                exact zs_vret C hr dX3_searchOver_140
              · refine zs_aload_n (k := 1) C dX3_searchOver_125 rfl rfl ?_
                refine zs_bipush (v := 10) C dX3_searchOver_126 (by decide) ?_
                refine pC_Worker_place C hp1 lkX3_50 dX3_searchOver_128 ?_
                refine zs_goto (tgt := 140) C dX3_searchOver_131 (by decide) ?_
                exact zs_vret C hr dX3_searchOver_140
          · refine zs_aload_n (k := 0) C dX3_searchOver_95 rfl rfl ?_
            refine zs_aload_n (k := 1) C dX3_searchOver_96 rfl rfl ?_
            refine zs_iconst (v := 0) C dX3_searchOver_97 (by decide) ?_
            refine zk_callVv (As := [.ref (ad (68 + p1)), .int 0]) (rest := []) C pk_X3_end (by decide) lkX3_238 (m_X3_end hJ d σ p1 0 hp1) zc_recvS rfl rfl rfl (Nat.le_of_ble_eq_true rfl) dX3_searchOver_98 ?_
            refine zs_goto (tgt := 140) C dX3_searchOver_101 (by decide) ?_
            exact zs_vret C hr dX3_searchOver_140
        · refine zs_aload_n (k := 1) C dX3_searchOver_104 rfl rfl ?_
          refine gC_Worker_operation C hp1 lkX3_232 dX3_searchOver_105 ?_
          refine zs_iconst (v := 1) C dX3_searchOver_108 (by decide) ?_
          refine zs_icmp_ne (tgt := 121) C dX3_searchOver_109 (by decide) (fun c_10 => ?_) (fun c_10 => ?_)
          · refine zs_aload_n (k := 1) C dX3_searchOver_112 rfl rfl ?_
            refine zs_bipush (v := 7) C dX3_searchOver_113 (by decide) ?_
            refine pC_Worker_place C hp1 lkX3_50 dX3_searchOver_115 ?_
            refine zs_goto (tgt := 140) C dX3_searchOver_118 (by decide) ?_
            exact zs_vret C hr dX3_searchOver_140
          · refine zs_iload_n (k := 2) C dX3_searchOver_121 rfl rfl ?_
            refine zs_if_eq (tgt := 134) C dX3_searchOver_122 (by decide) (fun c_11 => ?_) (fun c_11 => ?_)
            · refine zs_aload_n (k := 0) C dX3_searchOver_134 rfl rfl ?_
              refine zs_aload_n (k := 1) C dX3_searchOver_135 rfl rfl ?_
              refine zs_iconst (v := (-1)) C dX3_searchOver_136 (by decide) ?_
              refine zk_callVv (As := [.ref (ad (68 + p1)), .int (-1)]) (rest := []) C pk_X3_end (by decide) lkX3_238 (m_X3_end hJ d σ p1 (-1) hp1) zc_recvS rfl rfl rfl (Nat.le_of_ble_eq_true rfl) dX3_searchOver_137 ?_
              exact zs_vret C hr dX3_searchOver_140
            · refine zs_aload_n (k := 1) C dX3_searchOver_125 rfl rfl ?_
              refine zs_bipush (v := 10) C dX3_searchOver_126 (by decide) ?_
              refine pC_Worker_place C hp1 lkX3_50 dX3_searchOver_128 ?_
              refine zs_goto (tgt := 140) C dX3_searchOver_131 (by decide) ?_
              exact zs_vret C hr dX3_searchOver_140
    · refine zs_aload_n (k := 1) C dX3_searchOver_43 rfl rfl ?_
      refine zs_bipush (v := 12) C dX3_searchOver_44 (by decide) ?_
      refine pC_Worker_place C hp1 lkX3_50 dX3_searchOver_46 ?_
      refine zs_goto (tgt := 140) C dX3_searchOver_49 (by decide) ?_
      exact zs_vret C hr dX3_searchOver_140

def fn_X3_loadCur (σ : zs_T) (p1 : Nat) : zs_O := (if fr_X3_isNode σ (σ 19 p1) = 0 then ((fn_X3_searchOver σ p1 0).1, 0) else (if (fn_X3_mayLoad σ p1).2 = 0 then ((fn_X3_mayLoad σ p1).1, 0) else ((zs_u (zs_u (zs_u (fn_X3_mayLoad σ p1).1 20 p1 (((fn_X3_mayLoad σ p1).1) 2 ((((fn_X3_mayLoad σ p1).1) 19 p1).toNatClampNeg))) 21 p1 ((zs_u (fn_X3_mayLoad σ p1).1 20 p1 (((fn_X3_mayLoad σ p1).1) 2 ((((fn_X3_mayLoad σ p1).1) 19 p1).toNatClampNeg))) 3 (((zs_u (fn_X3_mayLoad σ p1).1 20 p1 (((fn_X3_mayLoad σ p1).1) 2 ((((fn_X3_mayLoad σ p1).1) 19 p1).toNatClampNeg))) 19 p1).toNatClampNeg))) 10 p1 5), 0)))
def ok_X3_loadCur (σ : zs_T) (p1 : Nat) : Prop := (fr_X3_isNode σ (σ 19 p1) = 0 → True) ∧ (¬ (fr_X3_isNode σ (σ 19 p1) = 0) → ((fn_X3_mayLoad σ p1).2 = 0 → True) ∧ (¬ ((fn_X3_mayLoad σ p1).2 = 0) → vp_in (((fn_X3_mayLoad σ p1).1) 19 p1) 64 ∧ (vp_in ((zs_u (fn_X3_mayLoad σ p1).1 20 p1 (((fn_X3_mayLoad σ p1).1) 2 ((((fn_X3_mayLoad σ p1).1) 19 p1).toNatClampNeg))) 19 p1) 64 ∧ (zs_B ((zs_u (fn_X3_mayLoad σ p1).1 20 p1 (((fn_X3_mayLoad σ p1).1) 2 ((((fn_X3_mayLoad σ p1).1) 19 p1).toNatClampNeg))) 3 (((zs_u (fn_X3_mayLoad σ p1).1 20 p1 (((fn_X3_mayLoad σ p1).1) 2 ((((fn_X3_mayLoad σ p1).1) 19 p1).toNatClampNeg))) 19 p1).toNatClampNeg)) ∧ (True)))))
set_option maxHeartbeats 4000000 in
set_option maxRecDepth 100000 in
theorem m_X3_loadCur {l : Launch} {D : va_G} {cI cN cW : ClassId} {ad : Nat → Nat} (hJ : zs_J 88 ad) (d : Nat) (σ : zs_T) (p1 : Nat) (hp1 : p1 < 4) (hok : ok_X3_loadCur σ p1) : zs_M l D vwCl (tysC cI cN cW) 88 ad (wC cI cN cW ad) yX3_loadCur (Cond.code yX3_loadCur cX3_loadCur 2 none :: zw_G) (zw_rm (d + 4)) [.ref (ad 0), .ref (ad (68 + p1))] zs_vv σ (fn_X3_loadCur σ p1) := by
  refine zs_ofZ (cc := cX3_loadCur) (nL := 2) (ret := none) (lv0 := [(0, .ref (ad 0)), (1, .ref (ad (68 + p1)))]) (by decide) rfl hJ (Nat.le_of_ble_eq_true rfl) rfl ?_
  intro p e s m args below meth c C hr
  unfold ok_X3_loadCur at hok
  unfold fn_X3_loadCur
  refine zs_aload_n (k := 1) C dX3_loadCur_0 rfl rfl ?_
  refine gC_Worker_cur C hp1 lkX3_92 dX3_loadCur_1 ?_
  refine zk_callSi (As := [.int (σ 19 p1)]) (rest := []) C pk_X3_isNode (by decide) lkX3_103 (m_X3_isNode hJ (d + 3) σ (σ 19 p1)) rfl rfl (Nat.le_of_ble_eq_true rfl) dX3_loadCur_4 ?_
  refine zs_if_ne (tgt := 17) C dX3_loadCur_7 (by decide) (fun c_1 => ?_) (fun c_1 => ?_)
  · have hok := hok.1 c_1
    refine zs_aload_n (k := 0) C dX3_loadCur_10 rfl rfl ?_
    refine zs_aload_n (k := 1) C dX3_loadCur_11 rfl rfl ?_
    refine zs_iconst (v := 0) C dX3_loadCur_12 (by decide) ?_
    refine zk_callVv (As := [.ref (ad (68 + p1)), .int 0]) (rest := []) C pk_X3_searchOver (by decide) lkX3_207 (m_X3_searchOver hJ d σ p1 0 hp1) zc_recvS rfl rfl rfl (Nat.le_of_ble_eq_true rfl) dX3_loadCur_13 ?_
    exact zs_vret C hr dX3_loadCur_16
  · have hok := hok.2 c_1
    refine zs_aload_n (k := 0) C dX3_loadCur_17 rfl rfl ?_
    refine zs_aload_n (k := 1) C dX3_loadCur_18 rfl rfl ?_
    refine zk_callVi (As := [.ref (ad (68 + p1))]) (rest := []) C pk_X3_mayLoad (by decide) lkX3_200 (m_X3_mayLoad hJ (d + 3) σ p1 hp1) zc_recvS rfl rfl rfl (Nat.le_of_ble_eq_true rfl) dX3_loadCur_19 ?_
    refine zs_if_ne (tgt := 26) C dX3_loadCur_22 (by decide) (fun c_2 => ?_) (fun c_2 => ?_)
    · have hok := hok.1 c_2
      exact zs_vret C hr dX3_loadCur_25
    · have hok := hok.2 c_2
      refine zs_aload_n (k := 1) C dX3_loadCur_26 rfl rfl ?_
      refine zs_aload_n (k := 0) C dX3_loadCur_27 rfl rfl ?_
      refine gC_S_nodes C lkX3_11 dX3_loadCur_28 ?_
      refine zs_aload_n (k := 1) C dX3_loadCur_31 rfl rfl ?_
      refine gC_Worker_cur C hp1 lkX3_92 dX3_loadCur_32 ?_
      obtain ⟨h_3, hok⟩ := hok
      refine aC_nodes C h_3 dX3_loadCur_35 ?_
      refine gC_Node_next C (zs_lt h_3) lkX3_114 dX3_loadCur_36 ?_
      refine pC_Worker_nxt C hp1 lkX3_95 dX3_loadCur_39 ?_
      refine zs_aload_n (k := 1) C dX3_loadCur_42 rfl rfl ?_
      refine zs_aload_n (k := 0) C dX3_loadCur_43 rfl rfl ?_
      refine gC_S_nodes C lkX3_11 dX3_loadCur_44 ?_
      refine zs_aload_n (k := 1) C dX3_loadCur_47 rfl rfl ?_
      refine gC_Worker_cur C hp1 lkX3_92 dX3_loadCur_48 ?_
      obtain ⟨h_4, hok⟩ := hok
      refine aC_nodes C h_4 dX3_loadCur_51 ?_
      refine gC_Node_marked C (zs_lt h_4) lkX3_117 dX3_loadCur_52 ?_
      obtain ⟨h_5, hok⟩ := hok
      refine pC_Worker_curMarked C hp1 lkX3_211 h_5 dX3_loadCur_55 ?_
      refine zs_aload_n (k := 1) C dX3_loadCur_58 rfl rfl ?_
      refine zs_iconst (v := 5) C dX3_loadCur_59 (by decide) ?_
      refine pC_Worker_place C hp1 lkX3_50 dX3_loadCur_60 ?_
      exact zs_vret C hr dX3_loadCur_63

def fn_X3_compare (σ : zs_T) (p1 : Nat) : zs_O := (if fr_X3_isNode σ (σ 19 p1) = 0 then ((zs_u σ 10 p1 3), 0) else (if fr_X3_leadsTo σ (σ 18 p1) (σ 19 p1) = 0 then ((zs_u σ 10 p1 3), 0) else (if σ 21 p1 = 0 then (if σ 1 ((σ 19 p1).toNatClampNeg) < fr_X3_wantedOrder σ p1 then ((zs_u (zs_u (zs_u σ 18 p1 (σ 19 p1)) 19 p1 ((zs_u σ 18 p1 (σ 19 p1)) 20 p1)) 10 p1 4), 0) else (if σ 1 ((σ 19 p1).toNatClampNeg) = fr_X3_wantedOrder σ p1 then ((fn_X3_searchOver σ p1 1).1, 0) else ((fn_X3_searchOver σ p1 0).1, 0))) else ((zs_u σ 10 p1 6), 0))))
def ok_X3_compare (σ : zs_T) (p1 : Nat) : Prop := (fr_X3_isNode σ (σ 19 p1) = 0 → True) ∧ (¬ (fr_X3_isNode σ (σ 19 p1) = 0) → (fr_X3_leadsTo σ (σ 18 p1) (σ 19 p1) = 0 → True) ∧ (¬ (fr_X3_leadsTo σ (σ 18 p1) (σ 19 p1) = 0) → (σ 21 p1 = 0 → ok_X3_wantedOrder σ p1 ∧ (True)) ∧ (¬ (σ 21 p1 = 0) → True)))
set_option maxHeartbeats 4000000 in
set_option maxRecDepth 100000 in
theorem m_X3_compare {l : Launch} {D : va_G} {cI cN cW : ClassId} {ad : Nat → Nat} (hJ : zs_J 88 ad) (d : Nat) (σ : zs_T) (p1 : Nat) (hp1 : p1 < 4) (hok : ok_X3_compare σ p1) : zs_M l D vwCl (tysC cI cN cW) 88 ad (wC cI cN cW ad) yX3_compare (Cond.code yX3_compare cX3_compare 4 none :: zw_G) (zw_rm (d + 4)) [.ref (ad 0), .ref (ad (68 + p1))] zs_vv σ (fn_X3_compare σ p1) := by
  refine zs_ofZ (cc := cX3_compare) (nL := 4) (ret := none) (lv0 := [(0, .ref (ad 0)), (1, .ref (ad (68 + p1)))]) (by decide) rfl hJ (Nat.le_of_ble_eq_true rfl) rfl ?_
  intro p e s m args below meth c C hr
  unfold ok_X3_compare at hok
  unfold fn_X3_compare
  refine zs_aload_n (k := 1) C dX3_compare_0 rfl rfl ?_
  refine gC_Worker_cur C hp1 lkX3_92 dX3_compare_1 ?_
  refine zk_callSi (As := [.int (σ 19 p1)]) (rest := []) C pk_X3_isNode (by decide) lkX3_103 (m_X3_isNode hJ (d + 3) σ (σ 19 p1)) rfl rfl (Nat.le_of_ble_eq_true rfl) dX3_compare_4 ?_
  refine zs_if_eq (tgt := 25) C dX3_compare_7 (by decide) (fun c_1 => ?_) (fun c_1 => ?_)
  · have hok := hok.1 c_1
    refine zs_aload_n (k := 1) C dX3_compare_25 rfl rfl ?_
    refine zs_iconst (v := 3) C dX3_compare_26 (by decide) ?_
    refine pC_Worker_place C hp1 lkX3_50 dX3_compare_27 ?_
    exact zs_vret C hr dX3_compare_30
  · have hok := hok.2 c_1
    refine zs_aload_n (k := 0) C dX3_compare_10 rfl rfl ?_
    refine zs_aload_n (k := 1) C dX3_compare_11 rfl rfl ?_
    refine gC_Worker_prev C hp1 lkX3_89 dX3_compare_12 ?_
    refine zs_aload_n (k := 1) C dX3_compare_15 rfl rfl ?_
    refine gC_Worker_cur C hp1 lkX3_92 dX3_compare_16 ?_
    refine zk_callVi (As := [.int (σ 18 p1), .int (σ 19 p1)]) (rest := []) C pk_X3_leadsTo (by decide) lkX3_214 (m_X3_leadsTo hJ (d + 2) σ (σ 18 p1) (σ 19 p1)) zc_recvS rfl rfl rfl (Nat.le_of_ble_eq_true rfl) dX3_compare_19 ?_
    refine zs_if_ne (tgt := 31) C dX3_compare_22 (by decide) (fun c_2 => ?_) (fun c_2 => ?_)
    · have hok := hok.1 c_2
      refine zs_aload_n (k := 1) C dX3_compare_25 rfl rfl ?_
      refine zs_iconst (v := 3) C dX3_compare_26 (by decide) ?_
      refine pC_Worker_place C hp1 lkX3_50 dX3_compare_27 ?_
      exact zs_vret C hr dX3_compare_30
    · have hok := hok.2 c_2
      refine zs_aload_n (k := 1) C dX3_compare_31 rfl rfl ?_
      refine gC_Worker_curMarked C hp1 lkX3_211 dX3_compare_32 ?_
      refine zs_if_eq (tgt := 45) C dX3_compare_35 (by decide) (fun c_3 => ?_) (fun c_3 => ?_)
      · have hok := hok.1 c_3
        refine zs_aload_n (k := 0) C dX3_compare_45 rfl rfl ?_
        refine gC_S_nodes C lkX3_11 dX3_compare_46 ?_
        refine zs_aload_n (k := 1) C dX3_compare_49 rfl rfl ?_
        refine gC_Worker_cur C hp1 lkX3_92 dX3_compare_50 ?_
        refine aC_nodes C (zc_inNode c_1) dX3_compare_53 ?_
        refine gC_Node_order C (zs_lt (zc_inNode c_1)) lkX3_111 dX3_compare_54 ?_
        refine zs_istore_n (lv' := [(2, .int (σ 1 ((σ 19 p1).toNatClampNeg))), (0, .ref (ad 0)), (1, .ref (ad (68 + p1)))]) C dX3_compare_57 rfl (by decide) rfl ?_
        refine zs_aload_n (k := 2) C dX3_compare_58 rfl rfl ?_
        obtain ⟨h_4, hok⟩ := hok
        refine zk_callSi (As := [.ref (ad (68 + p1))]) (rest := []) C pk_X3_wantedOrder (by decide) lkX3_218 (m_X3_wantedOrder hJ (d + 1) σ p1 hp1 h_4) rfl rfl (Nat.le_of_ble_eq_true rfl) dX3_compare_59 ?_
        refine zs_istore_n (lv' := [(3, .int (fr_X3_wantedOrder σ p1)), (2, .int (σ 1 ((σ 19 p1).toNatClampNeg))), (0, .ref (ad 0)), (1, .ref (ad (68 + p1)))]) C dX3_compare_62 rfl (by decide) rfl ?_
        refine zs_iload_n (k := 1) C dX3_compare_63 rfl rfl ?_
        refine zs_iload_n (k := 0) C dX3_compare_64 rfl rfl ?_
        refine zs_icmp_ge (tgt := 92) C dX3_compare_65 (by decide) (fun c_5 => ?_) (fun c_5 => ?_)
        · refine zs_aload_n (k := 3) C dX3_compare_68 rfl rfl ?_
          refine zs_aload_n (k := 3) C dX3_compare_69 rfl rfl ?_
          refine gC_Worker_cur C hp1 lkX3_92 dX3_compare_70 ?_
          refine pC_Worker_prev C hp1 lkX3_89 dX3_compare_73 ?_
          refine zs_aload_n (k := 3) C dX3_compare_76 rfl rfl ?_
          refine zs_aload_n (k := 3) C dX3_compare_77 rfl rfl ?_
          refine gC_Worker_nxt C hp1 lkX3_95 dX3_compare_78 ?_
          refine pC_Worker_cur C hp1 lkX3_92 dX3_compare_81 ?_
          refine zs_aload_n (k := 3) C dX3_compare_84 rfl rfl ?_
          refine zs_iconst (v := 4) C dX3_compare_85 (by decide) ?_
          refine pC_Worker_place C hp1 lkX3_50 dX3_compare_86 ?_
          refine zs_goto (tgt := 107) C dX3_compare_89 (by decide) ?_
          exact zs_vret C hr dX3_compare_107
        · refine zs_aload_n (k := 2) C dX3_compare_92 rfl rfl ?_
          refine zs_aload_n (k := 3) C dX3_compare_93 rfl rfl ?_
          refine zs_iload_n (k := 1) C dX3_compare_94 rfl rfl ?_
          refine zs_iload_n (k := 0) C dX3_compare_95 rfl rfl ?_
          refine zs_icmp_ne (tgt := 103) C dX3_compare_96 (by decide) (fun c_6 => ?_) (fun c_6 => ?_)
          · refine zs_iconst (v := 1) C dX3_compare_99 (by decide) ?_
            refine zs_goto (tgt := 104) C dX3_compare_100 (by decide) ?_
            refine zk_callVv (As := [.ref (ad (68 + p1)), .int 1]) (rest := []) C pk_X3_searchOver (by decide) lkX3_207 (m_X3_searchOver hJ d σ p1 1 hp1) zc_recvS rfl rfl rfl (Nat.le_of_ble_eq_true rfl) dX3_compare_104 ?_
            exact zs_vret C hr dX3_compare_107
          · refine zs_iconst (v := 0) C dX3_compare_103 (by decide) ?_
            refine zk_callVv (As := [.ref (ad (68 + p1)), .int 0]) (rest := []) C pk_X3_searchOver (by decide) lkX3_207 (m_X3_searchOver hJ d σ p1 0 hp1) zc_recvS rfl rfl rfl (Nat.le_of_ble_eq_true rfl) dX3_compare_104 ?_
            exact zs_vret C hr dX3_compare_107
      · have hok := hok.2 c_3
        refine zs_aload_n (k := 1) C dX3_compare_38 rfl rfl ?_
        refine zs_bipush (v := 6) C dX3_compare_39 (by decide) ?_
        refine pC_Worker_place C hp1 lkX3_50 dX3_compare_41 ?_
        exact zs_vret C hr dX3_compare_44

def fn_X3_unlinkMarked (σ : zs_T) (p1 : Nat) : zs_O := (if (fn_X3_change σ (σ 18 p1) (σ 19 p1) (σ 20 p1) 0).2 = 0 then ((zs_u (fn_X3_change σ (σ 18 p1) (σ 19 p1) (σ 20 p1) 0).1 10 p1 3), 0) else ((zs_u (zs_u (fn_X3_retire ((fn_X3_change σ (σ 18 p1) (σ 19 p1) (σ 20 p1) 0).1) p1 (((fn_X3_change σ (σ 18 p1) (σ 19 p1) (σ 20 p1) 0).1) 19 p1)).1 19 p1 (((fn_X3_retire ((fn_X3_change σ (σ 18 p1) (σ 19 p1) (σ 20 p1) 0).1) p1 (((fn_X3_change σ (σ 18 p1) (σ 19 p1) (σ 20 p1) 0).1) 19 p1)).1) 20 p1)) 10 p1 4), 0))
def ok_X3_unlinkMarked (σ : zs_T) (p1 : Nat) : Prop := ok_X3_change σ (σ 18 p1) (σ 19 p1) (σ 20 p1) 0 ∧ (((fn_X3_change σ (σ 18 p1) (σ 19 p1) (σ 20 p1) 0).2 = 0 → True) ∧ (¬ ((fn_X3_change σ (σ 18 p1) (σ 19 p1) (σ 20 p1) 0).2 = 0) → ok_X3_retire ((fn_X3_change σ (σ 18 p1) (σ 19 p1) (σ 20 p1) 0).1) p1 (((fn_X3_change σ (σ 18 p1) (σ 19 p1) (σ 20 p1) 0).1) 19 p1) ∧ (True)))
set_option maxHeartbeats 4000000 in
set_option maxRecDepth 100000 in
theorem m_X3_unlinkMarked {l : Launch} {D : va_G} {cI cN cW : ClassId} {ad : Nat → Nat} (hJ : zs_J 88 ad) (d : Nat) (σ : zs_T) (p1 : Nat) (hp1 : p1 < 4) (hok : ok_X3_unlinkMarked σ p1) : zs_M l D vwCl (tysC cI cN cW) 88 ad (wC cI cN cW ad) yX3_unlinkMarked (Cond.code yX3_unlinkMarked cX3_unlinkMarked 2 none :: zw_G) (zw_rm (d + 3)) [.ref (ad 0), .ref (ad (68 + p1))] zs_vv σ (fn_X3_unlinkMarked σ p1) := by
  refine zs_ofZ (cc := cX3_unlinkMarked) (nL := 2) (ret := none) (lv0 := [(0, .ref (ad 0)), (1, .ref (ad (68 + p1)))]) (by decide) rfl hJ (Nat.le_of_ble_eq_true rfl) rfl ?_
  intro p e s m args below meth c C hr
  unfold ok_X3_unlinkMarked at hok
  unfold fn_X3_unlinkMarked
  refine zs_aload_n (k := 0) C dX3_unlinkMarked_0 rfl rfl ?_
  refine zs_aload_n (k := 1) C dX3_unlinkMarked_1 rfl rfl ?_
  refine gC_Worker_prev C hp1 lkX3_89 dX3_unlinkMarked_2 ?_
  refine zs_aload_n (k := 1) C dX3_unlinkMarked_5 rfl rfl ?_
  refine gC_Worker_cur C hp1 lkX3_92 dX3_unlinkMarked_6 ?_
  refine zs_aload_n (k := 1) C dX3_unlinkMarked_9 rfl rfl ?_
  refine gC_Worker_nxt C hp1 lkX3_95 dX3_unlinkMarked_10 ?_
  refine zs_iconst (v := 0) C dX3_unlinkMarked_13 (by decide) ?_
  obtain ⟨h_1, hok⟩ := hok
  refine zk_callVi (As := [.int (σ 18 p1), .int (σ 19 p1), .int (σ 20 p1), .int 0]) (rest := []) C pk_X3_change (by decide) lkX3_242 (m_X3_change hJ d σ (σ 18 p1) (σ 19 p1) (σ 20 p1) 0 h_1) zc_recvS rfl rfl rfl (Nat.le_of_ble_eq_true rfl) dX3_unlinkMarked_14 ?_
  refine zs_if_eq (tgt := 45) C dX3_unlinkMarked_17 (by decide) (fun c_2 => ?_) (fun c_2 => ?_)
  · have hok := hok.1 c_2
    refine zs_aload_n (k := 1) C dX3_unlinkMarked_45 rfl rfl ?_
    refine zs_iconst (v := 3) C dX3_unlinkMarked_46 (by decide) ?_
    refine pC_Worker_place C hp1 lkX3_50 dX3_unlinkMarked_47 ?_
    exact zs_vret C hr dX3_unlinkMarked_50
  · have hok := hok.2 c_2
    refine zs_aload_n (k := 0) C dX3_unlinkMarked_20 rfl rfl ?_
    refine zs_aload_n (k := 1) C dX3_unlinkMarked_21 rfl rfl ?_
    refine zs_aload_n (k := 1) C dX3_unlinkMarked_22 rfl rfl ?_
    refine gC_Worker_cur C hp1 lkX3_92 dX3_unlinkMarked_23 ?_
    obtain ⟨h_3, hok⟩ := hok
    refine zk_callVv (As := [.ref (ad (68 + p1)), .int (((fn_X3_change σ (σ 18 p1) (σ 19 p1) (σ 20 p1) 0).1) 19 p1)]) (rest := []) C pk_X3_retire (by decide) lkX3_246 (m_X3_retire hJ (d + 1) ((fn_X3_change σ (σ 18 p1) (σ 19 p1) (σ 20 p1) 0).1) p1 (((fn_X3_change σ (σ 18 p1) (σ 19 p1) (σ 20 p1) 0).1) 19 p1) hp1 h_3) zc_recvS rfl rfl rfl (Nat.le_of_ble_eq_true rfl) dX3_unlinkMarked_26 ?_
    refine zs_aload_n (k := 1) C dX3_unlinkMarked_29 rfl rfl ?_
    refine zs_aload_n (k := 1) C dX3_unlinkMarked_30 rfl rfl ?_
    refine gC_Worker_nxt C hp1 lkX3_95 dX3_unlinkMarked_31 ?_
    refine pC_Worker_cur C hp1 lkX3_92 dX3_unlinkMarked_34 ?_
    refine zs_aload_n (k := 1) C dX3_unlinkMarked_37 rfl rfl ?_
    refine zs_iconst (v := 4) C dX3_unlinkMarked_38 (by decide) ?_
    refine pC_Worker_place C hp1 lkX3_50 dX3_unlinkMarked_39 ?_
    refine zs_goto (tgt := 50) C dX3_unlinkMarked_42 (by decide) ?_
    exact zs_vret C hr dX3_unlinkMarked_50

def fn_X3_prepare (σ : zs_T) (p1 : Nat) : zs_O := (if σ 22 p1 = (-1) then (if fr_X3_isNode (zs_u (fn_X3_takeFreeNode σ p1).1 22 p1 ((fn_X3_takeFreeNode σ p1).2)) ((zs_u (fn_X3_takeFreeNode σ p1).1 22 p1 ((fn_X3_takeFreeNode σ p1).2)) 22 p1) = 0 then ((fn_X3_end (zs_u (fn_X3_takeFreeNode σ p1).1 22 p1 ((fn_X3_takeFreeNode σ p1).2)) p1 (-2)).1, 0) else ((zs_u (fn_X0_pointTo (zs_u (fn_X3_takeFreeNode σ p1).1 22 p1 ((fn_X3_takeFreeNode σ p1).2)) (((zs_u (fn_X3_takeFreeNode σ p1).1 22 p1 ((fn_X3_takeFreeNode σ p1).2)) 22 p1).toNatClampNeg) ((zs_u (fn_X3_takeFreeNode σ p1).1 22 p1 ((fn_X3_takeFreeNode σ p1).2)) 19 p1) 0).1 10 p1 8), 0)) else (if fr_X3_isNode σ (σ 22 p1) = 0 then ((fn_X3_end σ p1 (-2)).1, 0) else ((zs_u (fn_X0_pointTo σ ((σ 22 p1).toNatClampNeg) (σ 19 p1) 0).1 10 p1 8), 0)))
def ok_X3_prepare (σ : zs_T) (p1 : Nat) : Prop := (σ 22 p1 = (-1) → ok_X3_takeFreeNode σ p1 ∧ ((fr_X3_isNode (zs_u (fn_X3_takeFreeNode σ p1).1 22 p1 ((fn_X3_takeFreeNode σ p1).2)) ((zs_u (fn_X3_takeFreeNode σ p1).1 22 p1 ((fn_X3_takeFreeNode σ p1).2)) 22 p1) = 0 → True) ∧ (¬ (fr_X3_isNode (zs_u (fn_X3_takeFreeNode σ p1).1 22 p1 ((fn_X3_takeFreeNode σ p1).2)) ((zs_u (fn_X3_takeFreeNode σ p1).1 22 p1 ((fn_X3_takeFreeNode σ p1).2)) 22 p1) = 0) → ok_X0_pointTo (zs_u (fn_X3_takeFreeNode σ p1).1 22 p1 ((fn_X3_takeFreeNode σ p1).2)) (((zs_u (fn_X3_takeFreeNode σ p1).1 22 p1 ((fn_X3_takeFreeNode σ p1).2)) 22 p1).toNatClampNeg) ((zs_u (fn_X3_takeFreeNode σ p1).1 22 p1 ((fn_X3_takeFreeNode σ p1).2)) 19 p1) 0 ∧ (True)))) ∧ (¬ (σ 22 p1 = (-1)) → (fr_X3_isNode σ (σ 22 p1) = 0 → True) ∧ (¬ (fr_X3_isNode σ (σ 22 p1) = 0) → ok_X0_pointTo σ ((σ 22 p1).toNatClampNeg) (σ 19 p1) 0 ∧ (True)))
set_option maxHeartbeats 4000000 in
set_option maxRecDepth 100000 in
theorem m_X3_prepare {l : Launch} {D : va_G} {cI cN cW : ClassId} {ad : Nat → Nat} (hJ : zs_J 88 ad) (d : Nat) (σ : zs_T) (p1 : Nat) (hp1 : p1 < 4) (hok : ok_X3_prepare σ p1) : zs_M l D vwCl (tysC cI cN cW) 88 ad (wC cI cN cW ad) yX3_prepare (Cond.code yX3_prepare cX3_prepare 2 none :: zw_G) (zw_rm (d + 4)) [.ref (ad 0), .ref (ad (68 + p1))] zs_vv σ (fn_X3_prepare σ p1) := by
  refine zs_ofZ (cc := cX3_prepare) (nL := 2) (ret := none) (lv0 := [(0, .ref (ad 0)), (1, .ref (ad (68 + p1)))]) (by decide) rfl hJ (Nat.le_of_ble_eq_true rfl) rfl ?_
  intro p e s m args below meth c C hr
  unfold ok_X3_prepare at hok
  unfold fn_X3_prepare
  refine zs_aload_n (k := 1) C dX3_prepare_0 rfl rfl ?_
  refine gC_Worker_own C hp1 lkX3_98 dX3_prepare_1 ?_
  refine zs_iconst (v := (-1)) C dX3_prepare_4 (by decide) ?_
  refine zs_icmp_ne (tgt := 17) C dX3_prepare_5 (by decide) (fun c_1 => ?_) (fun c_1 => ?_)
  · have hok := hok.1 c_1
    refine zs_aload_n (k := 1) C dX3_prepare_8 rfl rfl ?_
    refine zs_aload_n (k := 0) C dX3_prepare_9 rfl rfl ?_
    refine zs_aload_n (k := 1) C dX3_prepare_10 rfl rfl ?_
    obtain ⟨h_2, hok⟩ := hok
    refine zk_callVi (As := [.ref (ad (68 + p1))]) (rest := [.ref (ad (68 + p1))]) C pk_X3_takeFreeNode (by decide) lkX3_249 (m_X3_takeFreeNode hJ d σ p1 hp1 h_2) zc_recvS rfl rfl rfl (Nat.le_of_ble_eq_true rfl) dX3_prepare_11 ?_
    refine pC_Worker_own C hp1 lkX3_98 dX3_prepare_14 ?_
    refine zs_aload_n (k := 1) C dX3_prepare_17 rfl rfl ?_
    refine gC_Worker_own C hp1 lkX3_98 dX3_prepare_18 ?_
    refine zk_callSi (As := [.int ((zs_u (fn_X3_takeFreeNode σ p1).1 22 p1 ((fn_X3_takeFreeNode σ p1).2)) 22 p1)]) (rest := []) C pk_X3_isNode (by decide) lkX3_103 (m_X3_isNode hJ (d + 3) (zs_u (fn_X3_takeFreeNode σ p1).1 22 p1 ((fn_X3_takeFreeNode σ p1).2)) ((zs_u (fn_X3_takeFreeNode σ p1).1 22 p1 ((fn_X3_takeFreeNode σ p1).2)) 22 p1)) rfl rfl (Nat.le_of_ble_eq_true rfl) dX3_prepare_21 ?_
    refine zs_if_ne (tgt := 35) C dX3_prepare_24 (by decide) (fun c_3 => ?_) (fun c_3 => ?_)
    · have hok := hok.1 c_3
      refine zs_aload_n (k := 0) C dX3_prepare_27 rfl rfl ?_
      refine zs_aload_n (k := 1) C dX3_prepare_28 rfl rfl ?_
      refine zs_bipush (v := (-2)) C dX3_prepare_29 (by decide) ?_
      refine zk_callVv (As := [.ref (ad (68 + p1)), .int (-2)]) (rest := []) C pk_X3_end (by decide) lkX3_238 (m_X3_end hJ (d + 1) (zs_u (fn_X3_takeFreeNode σ p1).1 22 p1 ((fn_X3_takeFreeNode σ p1).2)) p1 (-2) hp1) zc_recvS rfl rfl rfl (Nat.le_of_ble_eq_true rfl) dX3_prepare_31 ?_
      exact zs_vret C hr dX3_prepare_34
    · have hok := hok.2 c_3
      refine zs_aload_n (k := 0) C dX3_prepare_35 rfl rfl ?_
      refine gC_S_nodes C lkX3_11 dX3_prepare_36 ?_
      refine zs_aload_n (k := 1) C dX3_prepare_39 rfl rfl ?_
      refine gC_Worker_own C hp1 lkX3_98 dX3_prepare_40 ?_
      refine aC_nodes C (zc_inNode c_3) dX3_prepare_43 ?_
      refine zs_aload_n (k := 1) C dX3_prepare_44 rfl rfl ?_
      refine gC_Worker_cur C hp1 lkX3_92 dX3_prepare_45 ?_
      refine zs_iconst (v := 0) C dX3_prepare_48 (by decide) ?_
      obtain ⟨h_4, hok⟩ := hok
      refine zk_callVv (As := [.int ((zs_u (fn_X3_takeFreeNode σ p1).1 22 p1 ((fn_X3_takeFreeNode σ p1).2)) 19 p1), .int 0]) (rest := []) C pk_X0_pointTo (by decide) lkX3_252 (m_X0_pointTo hJ (d + 3) (zs_u (fn_X3_takeFreeNode σ p1).1 22 p1 ((fn_X3_takeFreeNode σ p1).2)) (((zs_u (fn_X3_takeFreeNode σ p1).1 22 p1 ((fn_X3_takeFreeNode σ p1).2)) 22 p1).toNatClampNeg) ((zs_u (fn_X3_takeFreeNode σ p1).1 22 p1 ((fn_X3_takeFreeNode σ p1).2)) 19 p1) 0 (zs_lt (zc_inNode c_3)) h_4) (zc_recvNode (zs_lt (zc_inNode c_3))) rfl rfl rfl (Nat.le_of_ble_eq_true rfl) dX3_prepare_49 ?_
      refine zs_aload_n (k := 1) C dX3_prepare_52 rfl rfl ?_
      refine zs_bipush (v := 8) C dX3_prepare_53 (by decide) ?_
      refine pC_Worker_place C hp1 lkX3_50 dX3_prepare_55 ?_
      exact zs_vret C hr dX3_prepare_58
  · have hok := hok.2 c_1
    refine zs_aload_n (k := 1) C dX3_prepare_17 rfl rfl ?_
    refine gC_Worker_own C hp1 lkX3_98 dX3_prepare_18 ?_
    refine zk_callSi (As := [.int (σ 22 p1)]) (rest := []) C pk_X3_isNode (by decide) lkX3_103 (m_X3_isNode hJ (d + 3) σ (σ 22 p1)) rfl rfl (Nat.le_of_ble_eq_true rfl) dX3_prepare_21 ?_
    refine zs_if_ne (tgt := 35) C dX3_prepare_24 (by decide) (fun c_5 => ?_) (fun c_5 => ?_)
    · have hok := hok.1 c_5
      refine zs_aload_n (k := 0) C dX3_prepare_27 rfl rfl ?_
      refine zs_aload_n (k := 1) C dX3_prepare_28 rfl rfl ?_
      refine zs_bipush (v := (-2)) C dX3_prepare_29 (by decide) ?_
      refine zk_callVv (As := [.ref (ad (68 + p1)), .int (-2)]) (rest := []) C pk_X3_end (by decide) lkX3_238 (m_X3_end hJ (d + 1) σ p1 (-2) hp1) zc_recvS rfl rfl rfl (Nat.le_of_ble_eq_true rfl) dX3_prepare_31 ?_
      exact zs_vret C hr dX3_prepare_34
    · have hok := hok.2 c_5
      refine zs_aload_n (k := 0) C dX3_prepare_35 rfl rfl ?_
      refine gC_S_nodes C lkX3_11 dX3_prepare_36 ?_
      refine zs_aload_n (k := 1) C dX3_prepare_39 rfl rfl ?_
      refine gC_Worker_own C hp1 lkX3_98 dX3_prepare_40 ?_
      refine aC_nodes C (zc_inNode c_5) dX3_prepare_43 ?_
      refine zs_aload_n (k := 1) C dX3_prepare_44 rfl rfl ?_
      refine gC_Worker_cur C hp1 lkX3_92 dX3_prepare_45 ?_
      refine zs_iconst (v := 0) C dX3_prepare_48 (by decide) ?_
      obtain ⟨h_6, hok⟩ := hok
      refine zk_callVv (As := [.int (σ 19 p1), .int 0]) (rest := []) C pk_X0_pointTo (by decide) lkX3_252 (m_X0_pointTo hJ (d + 3) σ ((σ 22 p1).toNatClampNeg) (σ 19 p1) 0 (zs_lt (zc_inNode c_5)) h_6) (zc_recvNode (zs_lt (zc_inNode c_5))) rfl rfl rfl (Nat.le_of_ble_eq_true rfl) dX3_prepare_49 ?_
      refine zs_aload_n (k := 1) C dX3_prepare_52 rfl rfl ?_
      refine zs_bipush (v := 8) C dX3_prepare_53 (by decide) ?_
      refine pC_Worker_place C hp1 lkX3_50 dX3_prepare_55 ?_
      exact zs_vret C hr dX3_prepare_58

def fn_X3_link (σ : zs_T) (p1 : Nat) : zs_O := (if (fn_X3_change σ (σ 18 p1) (σ 19 p1) (σ 22 p1) 0).2 = 0 then ((zs_u (fn_X3_change σ (σ 18 p1) (σ 19 p1) (σ 22 p1) 0).1 10 p1 3), 0) else (if fr_X1_isEmpty (zs_u (fn_X3_change σ (σ 18 p1) (σ 19 p1) (σ 22 p1) 0).1 22 p1 (-1)) p1 = 0 then ((zs_u (zs_u (zs_u (fn_X3_change σ (σ 18 p1) (σ 19 p1) (σ 22 p1) 0).1 22 p1 (-1)) 23 p1 (((fn_X3_change σ (σ 18 p1) (σ 19 p1) (σ 22 p1) 0).1) 22 p1)) 10 p1 9), 0) else ((zs_u (zs_u (zs_u (fn_X3_change σ (σ 18 p1) (σ 19 p1) (σ 22 p1) 0).1 22 p1 (-1)) 33 0 (((zs_u (fn_X3_change σ (σ 18 p1) (σ 19 p1) (σ 22 p1) 0).1 22 p1 (-1)) 33 0) + 1)) 10 p1 13), 0)))
def ok_X3_link (σ : zs_T) (p1 : Nat) : Prop := ok_X3_change σ (σ 18 p1) (σ 19 p1) (σ 22 p1) 0 ∧ (True)
set_option maxHeartbeats 4000000 in
set_option maxRecDepth 100000 in
theorem m_X3_link {l : Launch} {D : va_G} {cI cN cW : ClassId} {ad : Nat → Nat} (hJ : zs_J 88 ad) (d : Nat) (σ : zs_T) (p1 : Nat) (hp1 : p1 < 4) (hok : ok_X3_link σ p1) : zs_M l D vwCl (tysC cI cN cW) 88 ad (wC cI cN cW ad) yX3_link (Cond.code yX3_link cX3_link 3 none :: zw_G) (zw_rm (d + 3)) [.ref (ad 0), .ref (ad (68 + p1))] zs_vv σ (fn_X3_link σ p1) := by
  refine zs_ofZ (cc := cX3_link) (nL := 3) (ret := none) (lv0 := [(0, .ref (ad 0)), (1, .ref (ad (68 + p1)))]) (by decide) rfl hJ (Nat.le_of_ble_eq_true rfl) rfl ?_
  intro p e s m args below meth c C hr
  unfold ok_X3_link at hok
  unfold fn_X3_link
  refine zs_aload_n (k := 0) C dX3_link_0 rfl rfl ?_
  refine zs_aload_n (k := 1) C dX3_link_1 rfl rfl ?_
  refine gC_Worker_prev C hp1 lkX3_89 dX3_link_2 ?_
  refine zs_aload_n (k := 1) C dX3_link_5 rfl rfl ?_
  refine gC_Worker_cur C hp1 lkX3_92 dX3_link_6 ?_
  refine zs_aload_n (k := 1) C dX3_link_9 rfl rfl ?_
  refine gC_Worker_own C hp1 lkX3_98 dX3_link_10 ?_
  refine zs_iconst (v := 0) C dX3_link_13 (by decide) ?_
  obtain ⟨h_1, hok⟩ := hok
  refine zk_callVi (As := [.int (σ 18 p1), .int (σ 19 p1), .int (σ 22 p1), .int 0]) (rest := []) C pk_X3_change (by decide) lkX3_242 (m_X3_change hJ d σ (σ 18 p1) (σ 19 p1) (σ 22 p1) 0 h_1) zc_recvS rfl rfl rfl (Nat.le_of_ble_eq_true rfl) dX3_link_14 ?_
  refine zs_if_ne (tgt := 26) C dX3_link_17 (by decide) (fun c_2 => ?_) (fun c_2 => ?_)
  · refine zs_aload_n (k := 1) C dX3_link_20 rfl rfl ?_
    refine zs_iconst (v := 3) C dX3_link_21 (by decide) ?_
    refine pC_Worker_place C hp1 lkX3_50 dX3_link_22 ?_
    exact zs_vret C hr dX3_link_25
  · refine zs_aload_n (k := 1) C dX3_link_26 rfl rfl ?_
    refine gC_Worker_own C hp1 lkX3_98 dX3_link_27 ?_
    refine zs_istore_n (lv' := [(2, .int (((fn_X3_change σ (σ 18 p1) (σ 19 p1) (σ 22 p1) 0).1) 22 p1)), (0, .ref (ad 0)), (1, .ref (ad (68 + p1)))]) C dX3_link_30 rfl (by decide) rfl ?_
    refine zs_aload_n (k := 2) C dX3_link_31 rfl rfl ?_
    refine zs_iconst (v := (-1)) C dX3_link_32 (by decide) ?_
    refine pC_Worker_own C hp1 lkX3_98 dX3_link_33 ?_
    refine zs_aload_n (k := 2) C dX3_link_36 rfl rfl ?_
    refine gC_Worker_stack C hp1 lkX3_86 dX3_link_37 ?_
    refine zk_callVi (As := []) (rest := []) C pk_X1_isEmpty (by decide) lkX3_222 (m_X1_isEmpty hJ (d + 2) (zs_u (fn_X3_change σ (σ 18 p1) (σ 19 p1) (σ 22 p1) 0).1 22 p1 (-1)) p1 (zc_8a hp1)) (zc_recvNum (zc_8a hp1)) rfl rfl rfl (Nat.le_of_ble_eq_true rfl) dX3_link_40 ?_
    refine zs_if_eq (tgt := 65) C dX3_link_43 (by decide) (fun c_3 => ?_) (fun c_3 => ?_)
    · refine zs_aload_n (k := 2) C dX3_link_65 rfl rfl ?_
      refine zs_iload_n (k := 0) C dX3_link_66 rfl rfl ?_
      refine pC_Worker_bucketNode C hp1 lkX3_226 dX3_link_67 ?_
      refine zs_aload_n (k := 2) C dX3_link_70 rfl rfl ?_
      refine zs_bipush (v := 9) C dX3_link_71 (by decide) ?_
      refine pC_Worker_place C hp1 lkX3_50 dX3_link_73 ?_
      exact zs_vret C hr dX3_link_76
    · refine zs_aload_n (k := 1) C dX3_link_46 rfl rfl ?_
      refine zs_dup C dX3_link_47 rfl ?_
      refine gC_S_count C lkX3_29 dX3_link_48 ?_
      refine zs_iconst (v := 1) C dX3_link_51 (by decide) ?_
      refine zs_iadd C dX3_link_52 ?_
      refine pC_S_count C lkX3_29 dX3_link_53 ?_
      refine zs_aload_n (k := 2) C dX3_link_56 rfl rfl ?_
      refine zs_bipush (v := 13) C dX3_link_57 (by decide) ?_
      refine pC_Worker_place C hp1 lkX3_50 dX3_link_59 ?_
      refine zs_goto (tgt := 76) C dX3_link_62 (by decide) ?_
      exact zs_vret C hr dX3_link_76

def fn_X3_setBucket (σ : zs_T) (p1 : Nat) : zs_O := (if fr_X3_isBucket ((fn_X3_freeOwn σ p1).1) (fr_X1_top ((fn_X3_freeOwn σ p1).1) p1) = 0 then ((zs_u (zs_u (fn_X1_dropTop ((fn_X3_freeOwn σ p1).1) p1).1 17 p1 (((fn_X1_dropTop ((fn_X3_freeOwn σ p1).1) p1).1) 23 p1)) 10 p1 3), 0) else (if ((fn_X3_freeOwn σ p1).1) 31 ((fr_X1_top ((fn_X3_freeOwn σ p1).1) p1).toNatClampNeg) = (-1) then ((zs_u (zs_u (fn_X1_dropTop (zs_u (fn_X3_freeOwn σ p1).1 31 ((fr_X1_top ((fn_X3_freeOwn σ p1).1) p1).toNatClampNeg) (((fn_X3_freeOwn σ p1).1) 23 p1)) p1).1 17 p1 (((fn_X1_dropTop (zs_u (fn_X3_freeOwn σ p1).1 31 ((fr_X1_top ((fn_X3_freeOwn σ p1).1) p1).toNatClampNeg) (((fn_X3_freeOwn σ p1).1) 23 p1)) p1).1) 23 p1)) 10 p1 3), 0) else ((zs_u (zs_u (fn_X1_dropTop ((fn_X3_freeOwn σ p1).1) p1).1 17 p1 (((fn_X1_dropTop ((fn_X3_freeOwn σ p1).1) p1).1) 23 p1)) 10 p1 3), 0)))
def ok_X3_setBucket (σ : zs_T) (p1 : Nat) : Prop := ok_X1_top ((fn_X3_freeOwn σ p1).1) p1 ∧ (True)
set_option maxHeartbeats 4000000 in
set_option maxRecDepth 100000 in
theorem m_X3_setBucket {l : Launch} {D : va_G} {cI cN cW : ClassId} {ad : Nat → Nat} (hJ : zs_J 88 ad) (d : Nat) (σ : zs_T) (p1 : Nat) (hp1 : p1 < 4) (hok : ok_X3_setBucket σ p1) : zs_M l D vwCl (tysC cI cN cW) 88 ad (wC cI cN cW ad) yX3_setBucket (Cond.code yX3_setBucket cX3_setBucket 3 none :: zw_G) (zw_rm (d + 2)) [.ref (ad 0), .ref (ad (68 + p1))] zs_vv σ (fn_X3_setBucket σ p1) := by
  refine zs_ofZ (cc := cX3_setBucket) (nL := 3) (ret := none) (lv0 := [(0, .ref (ad 0)), (1, .ref (ad (68 + p1)))]) (by decide) rfl hJ (Nat.le_of_ble_eq_true rfl) rfl ?_
  intro p e s m args below meth c C hr
  unfold ok_X3_setBucket at hok
  unfold fn_X3_setBucket
  refine zs_aload_n (k := 0) C dX3_setBucket_0 rfl rfl ?_
  refine zs_aload_n (k := 1) C dX3_setBucket_1 rfl rfl ?_
  refine zk_callVv (As := [.ref (ad (68 + p1))]) (rest := []) C pk_X3_freeOwn (by decide) lkX3_256 (m_X3_freeOwn hJ d σ p1 hp1) zc_recvS rfl rfl rfl (Nat.le_of_ble_eq_true rfl) dX3_setBucket_2 ?_
  refine zs_aload_n (k := 1) C dX3_setBucket_5 rfl rfl ?_
  refine gC_Worker_stack C hp1 lkX3_86 dX3_setBucket_6 ?_
  obtain ⟨h_1, hok⟩ := hok
  refine zk_callVi (As := []) (rest := []) C pk_X1_top (by decide) lkX3_259 (m_X1_top hJ d ((fn_X3_freeOwn σ p1).1) p1 (zc_8a hp1) h_1) (zc_recvNum (zc_8a hp1)) rfl rfl rfl (Nat.le_of_ble_eq_true rfl) dX3_setBucket_9 ?_
  refine zs_istore_n (lv' := [(2, .int (fr_X1_top ((fn_X3_freeOwn σ p1).1) p1)), (0, .ref (ad 0)), (1, .ref (ad (68 + p1)))]) C dX3_setBucket_12 rfl (by decide) rfl ?_
  refine zs_iload_n (k := 0) C dX3_setBucket_13 rfl rfl ?_
  refine zk_callSi (As := [.int (fr_X1_top ((fn_X3_freeOwn σ p1).1) p1)]) (rest := []) C pk_X3_isBucket (by decide) lkX3_263 (m_X3_isBucket hJ (d + 1) ((fn_X3_freeOwn σ p1).1) (fr_X1_top ((fn_X3_freeOwn σ p1).1) p1)) rfl rfl (Nat.le_of_ble_eq_true rfl) dX3_setBucket_14 ?_
  refine zs_if_eq (tgt := 40) C dX3_setBucket_17 (by decide) (fun c_2 => ?_) (fun c_2 => ?_)
  · refine zs_aload_n (k := 2) C dX3_setBucket_40 rfl rfl ?_
    refine gC_Worker_stack C hp1 lkX3_86 dX3_setBucket_41 ?_
    refine zk_callVv (As := []) (rest := []) C pk_X1_dropTop (by decide) lkX3_266 (m_X1_dropTop hJ d ((fn_X3_freeOwn σ p1).1) p1 (zc_8a hp1)) (zc_recvNum (zc_8a hp1)) rfl rfl rfl (Nat.le_of_ble_eq_true rfl) dX3_setBucket_44 ?_
    refine zs_aload_n (k := 2) C dX3_setBucket_47 rfl rfl ?_
    refine zs_aload_n (k := 2) C dX3_setBucket_48 rfl rfl ?_
    refine gC_Worker_bucketNode C hp1 lkX3_226 dX3_setBucket_49 ?_
    refine pC_Worker_start C hp1 lkX3_191 dX3_setBucket_52 ?_
    refine zs_aload_n (k := 2) C dX3_setBucket_55 rfl rfl ?_
    refine zs_iconst (v := 3) C dX3_setBucket_56 (by decide) ?_
    refine pC_Worker_place C hp1 lkX3_50 dX3_setBucket_57 ?_
    exact zs_vret C hr dX3_setBucket_60
  · refine zs_aload_n (k := 1) C dX3_setBucket_20 rfl rfl ?_
    refine gC_S_bucketNodes C lkX3_21 dX3_setBucket_21 ?_
    refine zs_iload_n (k := 0) C dX3_setBucket_24 rfl rfl ?_
    refine aC_bk C (zc_inBk c_2) dX3_setBucket_25 ?_
    refine zs_iconst (v := (-1)) C dX3_setBucket_26 (by decide) ?_
    refine zs_icmp_ne (tgt := 40) C dX3_setBucket_27 (by decide) (fun c_3 => ?_) (fun c_3 => ?_)
    · refine zs_aload_n (k := 1) C dX3_setBucket_30 rfl rfl ?_
      refine gC_S_bucketNodes C lkX3_21 dX3_setBucket_31 ?_
      refine zs_iload_n (k := 0) C dX3_setBucket_34 rfl rfl ?_
      refine zs_aload_n (k := 2) C dX3_setBucket_35 rfl rfl ?_
      refine gC_Worker_bucketNode C hp1 lkX3_226 dX3_setBucket_36 ?_
      refine sC_bk C (zc_inBk c_2) dX3_setBucket_39 ?_
      refine zs_aload_n (k := 2) C dX3_setBucket_40 rfl rfl ?_
      refine gC_Worker_stack C hp1 lkX3_86 dX3_setBucket_41 ?_
      refine zk_callVv (As := []) (rest := []) C pk_X1_dropTop (by decide) lkX3_266 (m_X1_dropTop hJ d (zs_u (fn_X3_freeOwn σ p1).1 31 ((fr_X1_top ((fn_X3_freeOwn σ p1).1) p1).toNatClampNeg) (((fn_X3_freeOwn σ p1).1) 23 p1)) p1 (zc_8a hp1)) (zc_recvNum (zc_8a hp1)) rfl rfl rfl (Nat.le_of_ble_eq_true rfl) dX3_setBucket_44 ?_
      refine zs_aload_n (k := 2) C dX3_setBucket_47 rfl rfl ?_
      refine zs_aload_n (k := 2) C dX3_setBucket_48 rfl rfl ?_
      refine gC_Worker_bucketNode C hp1 lkX3_226 dX3_setBucket_49 ?_
      refine pC_Worker_start C hp1 lkX3_191 dX3_setBucket_52 ?_
      refine zs_aload_n (k := 2) C dX3_setBucket_55 rfl rfl ?_
      refine zs_iconst (v := 3) C dX3_setBucket_56 (by decide) ?_
      refine pC_Worker_place C hp1 lkX3_50 dX3_setBucket_57 ?_
      exact zs_vret C hr dX3_setBucket_60
    · refine zs_aload_n (k := 2) C dX3_setBucket_40 rfl rfl ?_
      refine gC_Worker_stack C hp1 lkX3_86 dX3_setBucket_41 ?_
      refine zk_callVv (As := []) (rest := []) C pk_X1_dropTop (by decide) lkX3_266 (m_X1_dropTop hJ d ((fn_X3_freeOwn σ p1).1) p1 (zc_8a hp1)) (zc_recvNum (zc_8a hp1)) rfl rfl rfl (Nat.le_of_ble_eq_true rfl) dX3_setBucket_44 ?_
      refine zs_aload_n (k := 2) C dX3_setBucket_47 rfl rfl ?_
      refine zs_aload_n (k := 2) C dX3_setBucket_48 rfl rfl ?_
      refine gC_Worker_bucketNode C hp1 lkX3_226 dX3_setBucket_49 ?_
      refine pC_Worker_start C hp1 lkX3_191 dX3_setBucket_52 ?_
      refine zs_aload_n (k := 2) C dX3_setBucket_55 rfl rfl ?_
      refine zs_iconst (v := 3) C dX3_setBucket_56 (by decide) ?_
      refine pC_Worker_place C hp1 lkX3_50 dX3_setBucket_57 ?_
      exact zs_vret C hr dX3_setBucket_60

def fn_X3_mark (σ : zs_T) (p1 : Nat) : zs_O := (if (fn_X3_change σ (σ 19 p1) (σ 20 p1) (σ 20 p1) 1).2 = 0 then ((zs_u (fn_X3_change σ (σ 19 p1) (σ 20 p1) (σ 20 p1) 1).1 10 p1 3), 0) else ((zs_u (zs_u (zs_u (fn_X3_change σ (σ 19 p1) (σ 20 p1) (σ 20 p1) 1).1 33 0 ((((fn_X3_change σ (σ 19 p1) (σ 20 p1) (σ 20 p1) 1).1) 33 0) - 1)) 25 p1 (fr_X3_valueOf (zs_u (fn_X3_change σ (σ 19 p1) (σ 20 p1) (σ 20 p1) 1).1 33 0 ((((fn_X3_change σ (σ 19 p1) (σ 20 p1) (σ 20 p1) 1).1) 33 0) - 1)) ((zs_u (fn_X3_change σ (σ 19 p1) (σ 20 p1) (σ 20 p1) 1).1 33 0 ((((fn_X3_change σ (σ 19 p1) (σ 20 p1) (σ 20 p1) 1).1) 33 0) - 1)) 19 p1))) 10 p1 11), 0))
def ok_X3_mark (σ : zs_T) (p1 : Nat) : Prop := ok_X3_change σ (σ 19 p1) (σ 20 p1) (σ 20 p1) 1 ∧ (True)
set_option maxHeartbeats 4000000 in
set_option maxRecDepth 100000 in
theorem m_X3_mark {l : Launch} {D : va_G} {cI cN cW : ClassId} {ad : Nat → Nat} (hJ : zs_J 88 ad) (d : Nat) (σ : zs_T) (p1 : Nat) (hp1 : p1 < 4) (hok : ok_X3_mark σ p1) : zs_M l D vwCl (tysC cI cN cW) 88 ad (wC cI cN cW ad) yX3_mark (Cond.code yX3_mark cX3_mark 2 none :: zw_G) (zw_rm (d + 3)) [.ref (ad 0), .ref (ad (68 + p1))] zs_vv σ (fn_X3_mark σ p1) := by
  refine zs_ofZ (cc := cX3_mark) (nL := 2) (ret := none) (lv0 := [(0, .ref (ad 0)), (1, .ref (ad (68 + p1)))]) (by decide) rfl hJ (Nat.le_of_ble_eq_true rfl) rfl ?_
  intro p e s m args below meth c C hr
  unfold ok_X3_mark at hok
  unfold fn_X3_mark
  refine zs_aload_n (k := 0) C dX3_mark_0 rfl rfl ?_
  refine zs_aload_n (k := 1) C dX3_mark_1 rfl rfl ?_
  refine gC_Worker_cur C hp1 lkX3_92 dX3_mark_2 ?_
  refine zs_aload_n (k := 1) C dX3_mark_5 rfl rfl ?_
  refine gC_Worker_nxt C hp1 lkX3_95 dX3_mark_6 ?_
  refine zs_aload_n (k := 1) C dX3_mark_9 rfl rfl ?_
  refine gC_Worker_nxt C hp1 lkX3_95 dX3_mark_10 ?_
  refine zs_iconst (v := 1) C dX3_mark_13 (by decide) ?_
  obtain ⟨h_1, hok⟩ := hok
  refine zk_callVi (As := [.int (σ 19 p1), .int (σ 20 p1), .int (σ 20 p1), .int 1]) (rest := []) C pk_X3_change (by decide) lkX3_242 (m_X3_change hJ d σ (σ 19 p1) (σ 20 p1) (σ 20 p1) 1 h_1) zc_recvS rfl rfl rfl (Nat.le_of_ble_eq_true rfl) dX3_mark_14 ?_
  refine zs_if_eq (tgt := 51) C dX3_mark_17 (by decide) (fun c_2 => ?_) (fun c_2 => ?_)
  · refine zs_aload_n (k := 1) C dX3_mark_51 rfl rfl ?_
    refine zs_iconst (v := 3) C dX3_mark_52 (by decide) ?_
    refine pC_Worker_place C hp1 lkX3_50 dX3_mark_53 ?_
    exact zs_vret C hr dX3_mark_56
  · refine zs_aload_n (k := 0) C dX3_mark_20 rfl rfl ?_
    refine zs_dup C dX3_mark_21 rfl ?_
    refine gC_S_count C lkX3_29 dX3_mark_22 ?_
    refine zs_iconst (v := 1) C dX3_mark_25 (by decide) ?_
    refine zs_isub C dX3_mark_26 ?_
    refine pC_S_count C lkX3_29 dX3_mark_27 ?_
    refine zs_aload_n (k := 1) C dX3_mark_30 rfl rfl ?_
    refine zs_aload_n (k := 0) C dX3_mark_31 rfl rfl ?_
    refine zs_aload_n (k := 1) C dX3_mark_32 rfl rfl ?_
    refine gC_Worker_cur C hp1 lkX3_92 dX3_mark_33 ?_
    refine zk_callVi (As := [.int ((zs_u (fn_X3_change σ (σ 19 p1) (σ 20 p1) (σ 20 p1) 1).1 33 0 ((((fn_X3_change σ (σ 19 p1) (σ 20 p1) (σ 20 p1) 1).1) 33 0) - 1)) 19 p1)]) (rest := [.ref (ad (68 + p1))]) C pk_X3_valueOf (by decide) lkX3_235 (m_X3_valueOf hJ (d + 1) (zs_u (fn_X3_change σ (σ 19 p1) (σ 20 p1) (σ 20 p1) 1).1 33 0 ((((fn_X3_change σ (σ 19 p1) (σ 20 p1) (σ 20 p1) 1).1) 33 0) - 1)) ((zs_u (fn_X3_change σ (σ 19 p1) (σ 20 p1) (σ 20 p1) 1).1 33 0 ((((fn_X3_change σ (σ 19 p1) (σ 20 p1) (σ 20 p1) 1).1) 33 0) - 1)) 19 p1)) zc_recvS rfl rfl rfl (Nat.le_of_ble_eq_true rfl) dX3_mark_36 ?_
    refine pC_Worker_answer C hp1 lkX3_269 dX3_mark_39 ?_
    refine zs_aload_n (k := 1) C dX3_mark_42 rfl rfl ?_
    refine zs_bipush (v := 11) C dX3_mark_43 (by decide) ?_
    refine pC_Worker_place C hp1 lkX3_50 dX3_mark_45 ?_
    refine zs_goto (tgt := 56) C dX3_mark_48 (by decide) ?_
    exact zs_vret C hr dX3_mark_56

def fn_X3_unlinkRemoved (σ : zs_T) (p1 : Nat) : zs_O := (if (fn_X3_change σ (σ 18 p1) (σ 19 p1) (σ 20 p1) 0).2 = 0 then ((zs_u (zs_u (fn_X3_change σ (σ 18 p1) (σ 19 p1) (σ 20 p1) 0).1 24 p1 1) 10 p1 3), 0) else ((zs_u (fn_X3_retire ((fn_X3_change σ (σ 18 p1) (σ 19 p1) (σ 20 p1) 0).1) p1 (((fn_X3_change σ (σ 18 p1) (σ 19 p1) (σ 20 p1) 0).1) 19 p1)).1 10 p1 12), 0))
def ok_X3_unlinkRemoved (σ : zs_T) (p1 : Nat) : Prop := ok_X3_change σ (σ 18 p1) (σ 19 p1) (σ 20 p1) 0 ∧ (((fn_X3_change σ (σ 18 p1) (σ 19 p1) (σ 20 p1) 0).2 = 0 → True) ∧ (¬ ((fn_X3_change σ (σ 18 p1) (σ 19 p1) (σ 20 p1) 0).2 = 0) → ok_X3_retire ((fn_X3_change σ (σ 18 p1) (σ 19 p1) (σ 20 p1) 0).1) p1 (((fn_X3_change σ (σ 18 p1) (σ 19 p1) (σ 20 p1) 0).1) 19 p1) ∧ (True)))
set_option maxHeartbeats 4000000 in
set_option maxRecDepth 100000 in
theorem m_X3_unlinkRemoved {l : Launch} {D : va_G} {cI cN cW : ClassId} {ad : Nat → Nat} (hJ : zs_J 88 ad) (d : Nat) (σ : zs_T) (p1 : Nat) (hp1 : p1 < 4) (hok : ok_X3_unlinkRemoved σ p1) : zs_M l D vwCl (tysC cI cN cW) 88 ad (wC cI cN cW ad) yX3_unlinkRemoved (Cond.code yX3_unlinkRemoved cX3_unlinkRemoved 2 none :: zw_G) (zw_rm (d + 3)) [.ref (ad 0), .ref (ad (68 + p1))] zs_vv σ (fn_X3_unlinkRemoved σ p1) := by
  refine zs_ofZ (cc := cX3_unlinkRemoved) (nL := 2) (ret := none) (lv0 := [(0, .ref (ad 0)), (1, .ref (ad (68 + p1)))]) (by decide) rfl hJ (Nat.le_of_ble_eq_true rfl) rfl ?_
  intro p e s m args below meth c C hr
  unfold ok_X3_unlinkRemoved at hok
  unfold fn_X3_unlinkRemoved
  refine zs_aload_n (k := 0) C dX3_unlinkRemoved_0 rfl rfl ?_
  refine zs_aload_n (k := 1) C dX3_unlinkRemoved_1 rfl rfl ?_
  refine gC_Worker_prev C hp1 lkX3_89 dX3_unlinkRemoved_2 ?_
  refine zs_aload_n (k := 1) C dX3_unlinkRemoved_5 rfl rfl ?_
  refine gC_Worker_cur C hp1 lkX3_92 dX3_unlinkRemoved_6 ?_
  refine zs_aload_n (k := 1) C dX3_unlinkRemoved_9 rfl rfl ?_
  refine gC_Worker_nxt C hp1 lkX3_95 dX3_unlinkRemoved_10 ?_
  refine zs_iconst (v := 0) C dX3_unlinkRemoved_13 (by decide) ?_
  obtain ⟨h_1, hok⟩ := hok
  refine zk_callVi (As := [.int (σ 18 p1), .int (σ 19 p1), .int (σ 20 p1), .int 0]) (rest := []) C pk_X3_change (by decide) lkX3_242 (m_X3_change hJ d σ (σ 18 p1) (σ 19 p1) (σ 20 p1) 0 h_1) zc_recvS rfl rfl rfl (Nat.le_of_ble_eq_true rfl) dX3_unlinkRemoved_14 ?_
  refine zs_if_eq (tgt := 38) C dX3_unlinkRemoved_17 (by decide) (fun c_2 => ?_) (fun c_2 => ?_)
  · have hok := hok.1 c_2
    refine zs_aload_n (k := 1) C dX3_unlinkRemoved_38 rfl rfl ?_
    refine zs_iconst (v := 1) C dX3_unlinkRemoved_39 (by decide) ?_
    refine pC_Worker_cleans C hp1 lkX3_229 (Or.inr rfl) dX3_unlinkRemoved_40 ?_
    refine zs_aload_n (k := 1) C dX3_unlinkRemoved_43 rfl rfl ?_
    refine zs_iconst (v := 3) C dX3_unlinkRemoved_44 (by decide) ?_
    refine pC_Worker_place C hp1 lkX3_50 dX3_unlinkRemoved_45 ?_
    exact zs_vret C hr dX3_unlinkRemoved_48
  · have hok := hok.2 c_2
    refine zs_aload_n (k := 0) C dX3_unlinkRemoved_20 rfl rfl ?_
    refine zs_aload_n (k := 1) C dX3_unlinkRemoved_21 rfl rfl ?_
    refine zs_aload_n (k := 1) C dX3_unlinkRemoved_22 rfl rfl ?_
    refine gC_Worker_cur C hp1 lkX3_92 dX3_unlinkRemoved_23 ?_
    obtain ⟨h_3, hok⟩ := hok
    refine zk_callVv (As := [.ref (ad (68 + p1)), .int (((fn_X3_change σ (σ 18 p1) (σ 19 p1) (σ 20 p1) 0).1) 19 p1)]) (rest := []) C pk_X3_retire (by decide) lkX3_246 (m_X3_retire hJ (d + 1) ((fn_X3_change σ (σ 18 p1) (σ 19 p1) (σ 20 p1) 0).1) p1 (((fn_X3_change σ (σ 18 p1) (σ 19 p1) (σ 20 p1) 0).1) 19 p1) hp1 h_3) zc_recvS rfl rfl rfl (Nat.le_of_ble_eq_true rfl) dX3_unlinkRemoved_26 ?_
    refine zs_aload_n (k := 1) C dX3_unlinkRemoved_29 rfl rfl ?_
    refine zs_bipush (v := 12) C dX3_unlinkRemoved_30 (by decide) ?_
    refine pC_Worker_place C hp1 lkX3_50 dX3_unlinkRemoved_32 ?_
    refine zs_goto (tgt := 48) C dX3_unlinkRemoved_35 (by decide) ?_
    exact zs_vret C hr dX3_unlinkRemoved_48

def fn_X3_giveBack_L4 : Nat → zs_T → Nat → Int32 → Int32 → zs_O
  | 0, σ, _, _, _ => (σ, 0)
  | n + 1, σ, p1, x2, x3 => (if x3 < σ 30 (4 + p1) then (if fr_X3_isNode σ (fr_X1_at σ (4 + p1) x3) = 0 then (fn_X3_giveBack_L4 n σ p1 x2 (x3 + 1)) else (if fr_X3_canBeReached σ ((fr_X1_at σ (4 + p1) x3).toNatClampNeg) = 0 then (fn_X3_giveBack_L4 n (zs_u σ 0 ((fr_X1_at σ (4 + p1) x3).toNatClampNeg) 0) p1 x2 (x3 + 1)) else (fn_X3_giveBack_L4 n ((fn_X1_put σ (4 + p1) x2 (fr_X1_at σ (4 + p1) x3)).1) p1 (x2 + 1) (x3 + 1)))) else ((fn_X3_end ((fn_X1_cutTo σ (4 + p1) x2).1) p1 (((fn_X1_cutTo σ (4 + p1) x2).1) 25 p1)).1, 0))
def ok_X3_giveBack_L4 : Nat → zs_T → Nat → Int32 → Int32 → Prop
  | 0, _, _, _, _ => False
  | n + 1, σ, p1, x2, x3 => (x3 < σ 30 (4 + p1) → ok_X1_at σ (4 + p1) x3 ∧ ((fr_X3_isNode σ (fr_X1_at σ (4 + p1) x3) = 0 → (ok_X3_giveBack_L4 n σ p1 x2 (x3 + 1))) ∧ (¬ (fr_X3_isNode σ (fr_X1_at σ (4 + p1) x3) = 0) → ok_X3_canBeReached σ ((fr_X1_at σ (4 + p1) x3).toNatClampNeg) ∧ ((fr_X3_canBeReached σ ((fr_X1_at σ (4 + p1) x3).toNatClampNeg) = 0 → (ok_X3_giveBack_L4 n (zs_u σ 0 ((fr_X1_at σ (4 + p1) x3).toNatClampNeg) 0) p1 x2 (x3 + 1))) ∧ (¬ (fr_X3_canBeReached σ ((fr_X1_at σ (4 + p1) x3).toNatClampNeg) = 0) → ok_X1_put σ (4 + p1) x2 (fr_X1_at σ (4 + p1) x3) ∧ ((ok_X3_giveBack_L4 n ((fn_X1_put σ (4 + p1) x2 (fr_X1_at σ (4 + p1) x3)).1) p1 (x2 + 1) (x3 + 1)))))))) ∧ (¬ (x3 < σ 30 (4 + p1)) → True)
set_option maxHeartbeats 4000000 in
set_option maxRecDepth 100000 in
theorem lp_X3_giveBack_L4 {p : Program} {l : Launch} {e : Env} {s : State} {m : MethodId} {args : Array Value} {below : List Frame} {meth : Method} {c : Code} {D : va_G} {cI cN cW : ClassId} {ad : Nat → Nat} (C : zs_C p s m args meth c cX3_giveBack 5 (Cond.code yX3_giveBack cX3_giveBack 5 none :: zw_G) yX3_giveBack.cls D vwCl (tysC cI cN cW) 88 ad) (hr : meth.sig.returnType = none) (d : Nat) : ∀ (n : Nat) (σ : zs_T) (p1 : Nat) (x2 : Int32) (x3 : Int32) (hp1 : p1 < 4), ok_X3_giveBack_L4 n σ p1 x2 x3 → zs_Z p l e (zw_rm (d + 3)) s m args below meth c D vwCl 88 ad (wC cI cN cW ad) 5 zs_vv (fn_X3_giveBack_L4 n σ p1 x2 x3) σ 4 [(0, .ref (ad 0)), (1, .ref (ad (68 + p1))), (2, .int x2), (3, .int x3)] [] := by
  have hJ := C.2.2.1
  intro n
  induction n with
  | zero => intro σ p1 x2 x3 hp1 hok; exact hok.elim
  | succ n ih =>
    intro σ p1 x2 x3 hp1 hok
    rw [ok_X3_giveBack_L4] at hok
    rw [fn_X3_giveBack_L4]
    refine zs_iload_n (k := 3) C dX3_giveBack_4 rfl rfl ?_
    refine zs_aload_n (k := 1) C dX3_giveBack_5 rfl rfl ?_
    refine gC_Worker_row C hp1 lkX3_77 dX3_giveBack_6 ?_
    refine gC_Num_length C (zc_8b hp1) lkX3_81 dX3_giveBack_9 ?_
    refine zs_icmp_ge (tgt := 83) C dX3_giveBack_12 (by decide) (fun c_1 => ?_) (fun c_1 => ?_)
    · have hok := hok.1 c_1
      refine zs_aload_n (k := 1) C dX3_giveBack_15 rfl rfl ?_
      refine gC_Worker_row C hp1 lkX3_77 dX3_giveBack_16 ?_
      refine zs_iload_n (k := 3) C dX3_giveBack_19 rfl rfl ?_
      obtain ⟨h_2, hok⟩ := hok
      refine zk_callVi (As := [.int x3]) (rest := []) C pk_X1_at (by decide) lkX3_272 (m_X1_at hJ (d + 2) σ (4 + p1) x3 (zc_8b hp1) h_2) (zc_recvNum (zc_8b hp1)) rfl rfl rfl (Nat.le_of_ble_eq_true rfl) dX3_giveBack_20 ?_
      refine zs_istore (lv' := [(4, .int (fr_X1_at σ (4 + p1) x3)), (0, .ref (ad 0)), (1, .ref (ad (68 + p1))), (2, .int x2), (3, .int x3)]) C dX3_giveBack_23 (by decide) rfl ?_
      refine zs_iload (k := 0) C dX3_giveBack_25 rfl ?_
      refine zk_callSi (As := [.int (fr_X1_at σ (4 + p1) x3)]) (rest := []) C pk_X3_isNode (by decide) lkX3_103 (m_X3_isNode hJ (d + 2) σ (fr_X1_at σ (4 + p1) x3)) rfl rfl (Nat.le_of_ble_eq_true rfl) dX3_giveBack_27 ?_
      refine zs_if_ne (tgt := 36) C dX3_giveBack_30 (by decide) (fun c_3 => ?_) (fun c_3 => ?_)
      · have hok := hok.1 c_3
        refine zs_goto (tgt := 77) C dX3_giveBack_33 (by decide) ?_
        refine zs_iinc (k := 4) (v := x3 + 1) (lv' := [(3, .int (x3 + 1)), (4, .int (fr_X1_at σ (4 + p1) x3)), (0, .ref (ad 0)), (1, .ref (ad (68 + p1))), (2, .int x2)]) C dX3_giveBack_77 rfl rfl (by decide) rfl ?_
        refine zs_goto (tgt := 4) C dX3_giveBack_80 (by decide) ?_
        exact zs_sub [2, 3, 4, 0] rfl (ih σ p1 x2 (x3 + 1) hp1 hok)
      · have hok := hok.2 c_3
        refine zs_aload_n (k := 1) C dX3_giveBack_36 rfl rfl ?_
        refine zs_aload_n (k := 1) C dX3_giveBack_37 rfl rfl ?_
        refine gC_S_nodes C lkX3_11 dX3_giveBack_38 ?_
        refine zs_iload (k := 0) C dX3_giveBack_41 rfl ?_
        refine aC_nodes C (zc_inNode c_3) dX3_giveBack_43 ?_
        obtain ⟨h_4, hok⟩ := hok
        refine zk_callVi (As := [.ref (ad (4 + ((fr_X1_at σ (4 + p1) x3).toNatClampNeg)))]) (rest := []) C pk_X3_canBeReached (by decide) lkX3_275 (m_X3_canBeReached hJ (d + 2) σ ((fr_X1_at σ (4 + p1) x3).toNatClampNeg) (zs_lt (zc_inNode c_3)) h_4) zc_recvS rfl rfl rfl (Nat.le_of_ble_eq_true rfl) dX3_giveBack_44 ?_
        refine zs_if_eq (tgt := 66) C dX3_giveBack_47 (by decide) (fun c_5 => ?_) (fun c_5 => ?_)
        · have hok := hok.1 c_5
          refine zs_aload_n (k := 1) C dX3_giveBack_66 rfl rfl ?_
          refine gC_S_nodes C lkX3_11 dX3_giveBack_67 ?_
          refine zs_iload (k := 0) C dX3_giveBack_70 rfl ?_
          refine aC_nodes C (zc_inNode c_3) dX3_giveBack_72 ?_
          refine zs_iconst (v := 0) C dX3_giveBack_73 (by decide) ?_
          refine pC_Node_state C (zs_lt (zc_inNode c_3)) lkX3_108 dX3_giveBack_74 ?_
          refine zs_iinc (k := 4) (v := x3 + 1) (lv' := [(3, .int (x3 + 1)), (4, .int (fr_X1_at σ (4 + p1) x3)), (0, .ref (ad 0)), (1, .ref (ad (68 + p1))), (2, .int x2)]) C dX3_giveBack_77 rfl rfl (by decide) rfl ?_
          refine zs_goto (tgt := 4) C dX3_giveBack_80 (by decide) ?_
          exact zs_sub [2, 3, 4, 0] rfl (ih (zs_u σ 0 ((fr_X1_at σ (4 + p1) x3).toNatClampNeg) 0) p1 x2 (x3 + 1) hp1 hok)
        · have hok := hok.2 c_5
          refine zs_aload_n (k := 2) C dX3_giveBack_50 rfl rfl ?_
          refine gC_Worker_row C hp1 lkX3_77 dX3_giveBack_51 ?_
          refine zs_iload_n (k := 3) C dX3_giveBack_54 rfl rfl ?_
          refine zs_iload (k := 0) C dX3_giveBack_55 rfl ?_
          obtain ⟨h_6, hok⟩ := hok
          refine zk_callVv (As := [.int x2, .int (fr_X1_at σ (4 + p1) x3)]) (rest := []) C pk_X1_put (by decide) lkX3_279 (m_X1_put hJ (d + 2) σ (4 + p1) x2 (fr_X1_at σ (4 + p1) x3) (zc_8b hp1) h_6) (zc_recvNum (zc_8b hp1)) rfl rfl rfl (Nat.le_of_ble_eq_true rfl) dX3_giveBack_57 ?_
          refine zs_iinc (k := 3) (v := x2 + 1) (lv' := [(2, .int (x2 + 1)), (4, .int (fr_X1_at σ (4 + p1) x3)), (0, .ref (ad 0)), (1, .ref (ad (68 + p1))), (3, .int x3)]) C dX3_giveBack_60 rfl rfl (by decide) rfl ?_
          refine zs_goto (tgt := 77) C dX3_giveBack_63 (by decide) ?_
          refine zs_iinc (k := 4) (v := x3 + 1) (lv' := [(3, .int (x3 + 1)), (2, .int (x2 + 1)), (4, .int (fr_X1_at σ (4 + p1) x3)), (0, .ref (ad 0)), (1, .ref (ad (68 + p1)))]) C dX3_giveBack_77 rfl rfl (by decide) rfl ?_
          refine zs_goto (tgt := 4) C dX3_giveBack_80 (by decide) ?_
          exact zs_sub [3, 4, 1, 0] rfl (ih ((fn_X1_put σ (4 + p1) x2 (fr_X1_at σ (4 + p1) x3)).1) p1 (x2 + 1) (x3 + 1) hp1 hok)
    · have hok := hok.2 c_1
      refine zs_aload_n (k := 1) C dX3_giveBack_83 rfl rfl ?_
      refine gC_Worker_row C hp1 lkX3_77 dX3_giveBack_84 ?_
      refine zs_iload_n (k := 2) C dX3_giveBack_87 rfl rfl ?_
      refine zk_callVv (As := [.int x2]) (rest := []) C pk_X1_cutTo (by decide) lkX3_187 (m_X1_cutTo hJ (d + 2) σ (4 + p1) x2 (zc_8b hp1)) (zc_recvNum (zc_8b hp1)) rfl rfl rfl (Nat.le_of_ble_eq_true rfl) dX3_giveBack_88 ?_
      refine zs_aload_n (k := 0) C dX3_giveBack_91 rfl rfl ?_
      refine zs_aload_n (k := 1) C dX3_giveBack_92 rfl rfl ?_
      refine zs_aload_n (k := 1) C dX3_giveBack_93 rfl rfl ?_
      refine gC_Worker_answer C hp1 lkX3_269 dX3_giveBack_94 ?_
      refine zk_callVv (As := [.ref (ad (68 + p1)), .int (((fn_X1_cutTo σ (4 + p1) x2).1) 25 p1)]) (rest := []) C pk_X3_end (by decide) lkX3_238 (m_X3_end hJ d ((fn_X1_cutTo σ (4 + p1) x2).1) p1 (((fn_X1_cutTo σ (4 + p1) x2).1) 25 p1) hp1) zc_recvS rfl rfl rfl (Nat.le_of_ble_eq_true rfl) dX3_giveBack_97 ?_
      exact zs_vret C hr dX3_giveBack_100
def fn_X3_giveBack (σ : zs_T) (p1 : Nat) : zs_O := (fn_X3_giveBack_L4 65 σ p1 0 0)
def ok_X3_giveBack (σ : zs_T) (p1 : Nat) : Prop := (ok_X3_giveBack_L4 65 σ p1 0 0)
set_option maxHeartbeats 4000000 in
set_option maxRecDepth 100000 in
theorem m_X3_giveBack {l : Launch} {D : va_G} {cI cN cW : ClassId} {ad : Nat → Nat} (hJ : zs_J 88 ad) (d : Nat) (σ : zs_T) (p1 : Nat) (hp1 : p1 < 4) (hok : ok_X3_giveBack σ p1) : zs_M l D vwCl (tysC cI cN cW) 88 ad (wC cI cN cW ad) yX3_giveBack (Cond.code yX3_giveBack cX3_giveBack 5 none :: zw_G) (zw_rm (d + 3)) [.ref (ad 0), .ref (ad (68 + p1))] zs_vv σ (fn_X3_giveBack σ p1) := by
  refine zs_ofZ (cc := cX3_giveBack) (nL := 5) (ret := none) (lv0 := [(0, .ref (ad 0)), (1, .ref (ad (68 + p1)))]) (by decide) rfl hJ (Nat.le_of_ble_eq_true rfl) rfl ?_
  intro p e s m args below meth c C hr
  unfold ok_X3_giveBack at hok
  unfold fn_X3_giveBack
  refine zs_iconst (v := 0) C dX3_giveBack_0 (by decide) ?_
  refine zs_istore_n (lv' := [(2, .int 0), (0, .ref (ad 0)), (1, .ref (ad (68 + p1)))]) C dX3_giveBack_1 rfl (by decide) rfl ?_
  refine zs_iconst (v := 0) C dX3_giveBack_2 (by decide) ?_
  refine zs_istore_n (lv' := [(3, .int 0), (2, .int 0), (0, .ref (ad 0)), (1, .ref (ad (68 + p1)))]) C dX3_giveBack_3 rfl (by decide) rfl ?_
  exact zs_sub [2, 3, 1, 0] rfl (lp_X3_giveBack_L4 C hr d 65 σ p1 0 0 hp1 hok)

def fn_X3_grow (σ : zs_T) (p1 : Nat) : zs_O := (if 2 * (σ 32 0) < σ 33 0 then (if σ 32 0 < 16 then ((fn_X3_end (zs_u σ 32 0 (2 * (σ 32 0))) p1 1).1, 0) else ((fn_X3_end σ p1 1).1, 0)) else ((fn_X3_end σ p1 1).1, 0))
set_option maxHeartbeats 4000000 in
set_option maxRecDepth 100000 in
theorem m_X3_grow {l : Launch} {D : va_G} {cI cN cW : ClassId} {ad : Nat → Nat} (hJ : zs_J 88 ad) (d : Nat) (σ : zs_T) (p1 : Nat) (hp1 : p1 < 4) : zs_M l D vwCl (tysC cI cN cW) 88 ad (wC cI cN cW ad) yX3_grow (Cond.code yX3_grow cX3_grow 2 none :: zw_G) (zw_rm (d + 3)) [.ref (ad 0), .ref (ad (68 + p1))] zs_vv σ (fn_X3_grow σ p1) := by
  refine zs_ofZ (cc := cX3_grow) (nL := 2) (ret := none) (lv0 := [(0, .ref (ad 0)), (1, .ref (ad (68 + p1)))]) (by decide) rfl hJ (Nat.le_of_ble_eq_true rfl) rfl ?_
  intro p e s m args below meth c C hr
  unfold fn_X3_grow
  refine zs_aload_n (k := 0) C dX3_grow_0 rfl rfl ?_
  refine gC_S_count C lkX3_29 dX3_grow_1 ?_
  refine zs_iconst (v := 2) C dX3_grow_4 (by decide) ?_
  refine zs_aload_n (k := 0) C dX3_grow_5 rfl rfl ?_
  refine gC_S_size C lkX3_25 dX3_grow_6 ?_
  refine zs_imul C dX3_grow_9 ?_
  refine zs_icmp_le (tgt := 32) C dX3_grow_10 (by decide) (fun c_1 => ?_) (fun c_1 => ?_)
  · refine zs_aload_n (k := 0) C dX3_grow_13 rfl rfl ?_
    refine gC_S_size C lkX3_25 dX3_grow_14 ?_
    refine zs_bipush (v := 16) C dX3_grow_17 (by decide) ?_
    refine zs_icmp_ge (tgt := 32) C dX3_grow_19 (by decide) (fun c_2 => ?_) (fun c_2 => ?_)
    · refine zs_aload_n (k := 0) C dX3_grow_22 rfl rfl ?_
      refine zs_iconst (v := 2) C dX3_grow_23 (by decide) ?_
      refine zs_aload_n (k := 0) C dX3_grow_24 rfl rfl ?_
      refine gC_S_size C lkX3_25 dX3_grow_25 ?_
      refine zs_imul C dX3_grow_28 ?_
      refine pC_S_size C lkX3_25 dX3_grow_29 ?_
      refine zs_aload_n (k := 0) C dX3_grow_32 rfl rfl ?_
      refine zs_aload_n (k := 1) C dX3_grow_33 rfl rfl ?_
      refine zs_iconst (v := 1) C dX3_grow_34 (by decide) ?_
      refine zk_callVv (As := [.ref (ad (68 + p1)), .int 1]) (rest := []) C pk_X3_end (by decide) lkX3_238 (m_X3_end hJ d (zs_u σ 32 0 (2 * (σ 32 0))) p1 1 hp1) zc_recvS rfl rfl rfl (Nat.le_of_ble_eq_true rfl) dX3_grow_35 ?_
      exact zs_vret C hr dX3_grow_38
    · refine zs_aload_n (k := 0) C dX3_grow_32 rfl rfl ?_
      refine zs_aload_n (k := 1) C dX3_grow_33 rfl rfl ?_
      refine zs_iconst (v := 1) C dX3_grow_34 (by decide) ?_
      refine zk_callVv (As := [.ref (ad (68 + p1)), .int 1]) (rest := []) C pk_X3_end (by decide) lkX3_238 (m_X3_end hJ d σ p1 1 hp1) zc_recvS rfl rfl rfl (Nat.le_of_ble_eq_true rfl) dX3_grow_35 ?_
      exact zs_vret C hr dX3_grow_38
  · refine zs_aload_n (k := 0) C dX3_grow_32 rfl rfl ?_
    refine zs_aload_n (k := 1) C dX3_grow_33 rfl rfl ?_
    refine zs_iconst (v := 1) C dX3_grow_34 (by decide) ?_
    refine zk_callVv (As := [.ref (ad (68 + p1)), .int 1]) (rest := []) C pk_X3_end (by decide) lkX3_238 (m_X3_end hJ d σ p1 1 hp1) zc_recvS rfl rfl rfl (Nat.le_of_ble_eq_true rfl) dX3_grow_35 ?_
    exact zs_vret C hr dX3_grow_38
end
section
def fn_X3_advance (σ : zs_T) (p1 : Nat) : zs_O := (if σ 10 p1 = 1 then ((fn_X3_enter σ p1).1, 0) else (if σ 10 p1 = 2 then ((fn_X3_seekBucket σ p1).1, 0) else (if σ 10 p1 = 3 then ((fn_X3_loadStart σ p1).1, 0) else (if σ 10 p1 = 4 then ((fn_X3_loadCur σ p1).1, 0) else (if σ 10 p1 = 5 then ((fn_X3_compare σ p1).1, 0) else (if σ 10 p1 = 6 then ((fn_X3_unlinkMarked σ p1).1, 0) else (if σ 10 p1 = 7 then ((fn_X3_prepare σ p1).1, 0) else (if σ 10 p1 = 8 then ((fn_X3_link σ p1).1, 0) else (if σ 10 p1 = 9 then ((fn_X3_setBucket σ p1).1, 0) else (if σ 10 p1 = 10 then ((fn_X3_mark σ p1).1, 0) else (if σ 10 p1 = 11 then ((fn_X3_unlinkRemoved σ p1).1, 0) else (if σ 10 p1 = 12 then ((fn_X3_giveBack σ p1).1, 0) else (if σ 10 p1 = 13 then ((fn_X3_grow σ p1).1, 0) else (σ, 0))))))))))))))
def ok_X3_advance (σ : zs_T) (p1 : Nat) : Prop := (σ 10 p1 = 1 → True) ∧ (¬ (σ 10 p1 = 1) → (σ 10 p1 = 2 → ok_X3_seekBucket σ p1 ∧ (True)) ∧ (¬ (σ 10 p1 = 2) → (σ 10 p1 = 3 → True) ∧ (¬ (σ 10 p1 = 3) → (σ 10 p1 = 4 → ok_X3_loadCur σ p1 ∧ (True)) ∧ (¬ (σ 10 p1 = 4) → (σ 10 p1 = 5 → ok_X3_compare σ p1 ∧ (True)) ∧ (¬ (σ 10 p1 = 5) → (σ 10 p1 = 6 → ok_X3_unlinkMarked σ p1 ∧ (True)) ∧ (¬ (σ 10 p1 = 6) → (σ 10 p1 = 7 → ok_X3_prepare σ p1 ∧ (True)) ∧ (¬ (σ 10 p1 = 7) → (σ 10 p1 = 8 → ok_X3_link σ p1 ∧ (True)) ∧ (¬ (σ 10 p1 = 8) → (σ 10 p1 = 9 → ok_X3_setBucket σ p1 ∧ (True)) ∧ (¬ (σ 10 p1 = 9) → (σ 10 p1 = 10 → ok_X3_mark σ p1 ∧ (True)) ∧ (¬ (σ 10 p1 = 10) → (σ 10 p1 = 11 → ok_X3_unlinkRemoved σ p1 ∧ (True)) ∧ (¬ (σ 10 p1 = 11) → (σ 10 p1 = 12 → ok_X3_giveBack σ p1 ∧ (True)) ∧ (¬ (σ 10 p1 = 12) → (σ 10 p1 = 13 → True) ∧ (¬ (σ 10 p1 = 13) → True)))))))))))))
set_option maxHeartbeats 4000000 in
set_option maxRecDepth 100000 in
theorem m_X3_advance {l : Launch} {D : va_G} {cI cN cW : ClassId} {ad : Nat → Nat} (hJ : zs_J 88 ad) (d : Nat) (σ : zs_T) (p1 : Nat) (hp1 : p1 < 4) (hok : ok_X3_advance σ p1) : zs_M l D vwCl (tysC cI cN cW) 88 ad (wC cI cN cW ad) yX3_advance (Cond.code yX3_advance cX3_advance 2 none :: zw_G) (zw_rm (d + 5)) [.ref (ad 0), .ref (ad (68 + p1))] zs_vv σ (fn_X3_advance σ p1) := by
  refine zs_ofZ (cc := cX3_advance) (nL := 2) (ret := none) (lv0 := [(0, .ref (ad 0)), (1, .ref (ad (68 + p1)))]) (by decide) rfl hJ (Nat.le_of_ble_eq_true rfl) rfl ?_
  intro p e s m args below meth c C hr
  unfold ok_X3_advance at hok
  unfold fn_X3_advance
  refine zs_aload_n (k := 1) C dX3_advance_0 rfl rfl ?_
  refine gC_Worker_place C hp1 lkX3_50 dX3_advance_1 ?_
  refine zs_if (fun c_1 => ?_) (fun c_1 => ?_)
  · have hok := hok.1 c_1
    refine zs_tabIn (kx := 1) (tgt := 72) C dX3_advance_4 c_1 (by decide) (by decide) rfl (by decide) ?_
    refine zs_aload_n (k := 0) C dX3_advance_72 rfl rfl ?_
    refine zs_aload_n (k := 1) C dX3_advance_73 rfl rfl ?_
    refine zk_callVv (As := [.ref (ad (68 + p1))]) (rest := []) C pk_X3_enter (by decide) lkX3_141 (m_X3_enter hJ (d + 3) σ p1 hp1) zc_recvS rfl rfl rfl (Nat.le_of_ble_eq_true rfl) dX3_advance_74 ?_
    refine zs_goto (tgt := 176) C dX3_advance_77 (by decide) ?_
    exact zs_vret C hr dX3_advance_176
  have hok := hok.2 c_1
  refine zs_if (fun c_2 => ?_) (fun c_2 => ?_)
  · have hok := hok.1 c_2
    refine zs_tabIn (kx := 2) (tgt := 80) C dX3_advance_4 c_2 (by decide) (by decide) rfl (by decide) ?_
    refine zs_aload_n (k := 0) C dX3_advance_80 rfl rfl ?_
    refine zs_aload_n (k := 1) C dX3_advance_81 rfl rfl ?_
    obtain ⟨h_3, hok⟩ := hok
    refine zk_callVv (As := [.ref (ad (68 + p1))]) (rest := []) C pk_X3_seekBucket (by decide) lkX3_144 (m_X3_seekBucket hJ (d + 2) σ p1 hp1 h_3) zc_recvS rfl rfl rfl (Nat.le_of_ble_eq_true rfl) dX3_advance_82 ?_
    refine zs_goto (tgt := 176) C dX3_advance_85 (by decide) ?_
    exact zs_vret C hr dX3_advance_176
  have hok := hok.2 c_2
  refine zs_if (fun c_4 => ?_) (fun c_4 => ?_)
  · have hok := hok.1 c_4
    refine zs_tabIn (kx := 3) (tgt := 88) C dX3_advance_4 c_4 (by decide) (by decide) rfl (by decide) ?_
    refine zs_aload_n (k := 0) C dX3_advance_88 rfl rfl ?_
    refine zs_aload_n (k := 1) C dX3_advance_89 rfl rfl ?_
    refine zk_callVv (As := [.ref (ad (68 + p1))]) (rest := []) C pk_X3_loadStart (by decide) lkX3_147 (m_X3_loadStart hJ (d + 2) σ p1 hp1) zc_recvS rfl rfl rfl (Nat.le_of_ble_eq_true rfl) dX3_advance_90 ?_
    refine zs_goto (tgt := 176) C dX3_advance_93 (by decide) ?_
    exact zs_vret C hr dX3_advance_176
  have hok := hok.2 c_4
  refine zs_if (fun c_5 => ?_) (fun c_5 => ?_)
  · have hok := hok.1 c_5
    refine zs_tabIn (kx := 4) (tgt := 96) C dX3_advance_4 c_5 (by decide) (by decide) rfl (by decide) ?_
    refine zs_aload_n (k := 0) C dX3_advance_96 rfl rfl ?_
    refine zs_aload_n (k := 1) C dX3_advance_97 rfl rfl ?_
    obtain ⟨h_6, hok⟩ := hok
    refine zk_callVv (As := [.ref (ad (68 + p1))]) (rest := []) C pk_X3_loadCur (by decide) lkX3_150 (m_X3_loadCur hJ d σ p1 hp1 h_6) zc_recvS rfl rfl rfl (Nat.le_of_ble_eq_true rfl) dX3_advance_98 ?_
    refine zs_goto (tgt := 176) C dX3_advance_101 (by decide) ?_
    exact zs_vret C hr dX3_advance_176
  have hok := hok.2 c_5
  refine zs_if (fun c_7 => ?_) (fun c_7 => ?_)
  · have hok := hok.1 c_7
    refine zs_tabIn (kx := 5) (tgt := 104) C dX3_advance_4 c_7 (by decide) (by decide) rfl (by decide) ?_
    refine zs_aload_n (k := 0) C dX3_advance_104 rfl rfl ?_
    refine zs_aload_n (k := 1) C dX3_advance_105 rfl rfl ?_
    obtain ⟨h_8, hok⟩ := hok
    refine zk_callVv (As := [.ref (ad (68 + p1))]) (rest := []) C pk_X3_compare (by decide) lkX3_153 (m_X3_compare hJ d σ p1 hp1 h_8) zc_recvS rfl rfl rfl (Nat.le_of_ble_eq_true rfl) dX3_advance_106 ?_
    refine zs_goto (tgt := 176) C dX3_advance_109 (by decide) ?_
    exact zs_vret C hr dX3_advance_176
  have hok := hok.2 c_7
  refine zs_if (fun c_9 => ?_) (fun c_9 => ?_)
  · have hok := hok.1 c_9
    refine zs_tabIn (kx := 6) (tgt := 112) C dX3_advance_4 c_9 (by decide) (by decide) rfl (by decide) ?_
    refine zs_aload_n (k := 0) C dX3_advance_112 rfl rfl ?_
    refine zs_aload_n (k := 1) C dX3_advance_113 rfl rfl ?_
    obtain ⟨h_10, hok⟩ := hok
    refine zk_callVv (As := [.ref (ad (68 + p1))]) (rest := []) C pk_X3_unlinkMarked (by decide) lkX3_156 (m_X3_unlinkMarked hJ (d + 1) σ p1 hp1 h_10) zc_recvS rfl rfl rfl (Nat.le_of_ble_eq_true rfl) dX3_advance_114 ?_
    refine zs_goto (tgt := 176) C dX3_advance_117 (by decide) ?_
    exact zs_vret C hr dX3_advance_176
  have hok := hok.2 c_9
  refine zs_if (fun c_11 => ?_) (fun c_11 => ?_)
  · have hok := hok.1 c_11
    refine zs_tabIn (kx := 7) (tgt := 120) C dX3_advance_4 c_11 (by decide) (by decide) rfl (by decide) ?_
    refine zs_aload_n (k := 0) C dX3_advance_120 rfl rfl ?_
    refine zs_aload_n (k := 1) C dX3_advance_121 rfl rfl ?_
    obtain ⟨h_12, hok⟩ := hok
    refine zk_callVv (As := [.ref (ad (68 + p1))]) (rest := []) C pk_X3_prepare (by decide) lkX3_159 (m_X3_prepare hJ d σ p1 hp1 h_12) zc_recvS rfl rfl rfl (Nat.le_of_ble_eq_true rfl) dX3_advance_122 ?_
    refine zs_goto (tgt := 176) C dX3_advance_125 (by decide) ?_
    exact zs_vret C hr dX3_advance_176
  have hok := hok.2 c_11
  refine zs_if (fun c_13 => ?_) (fun c_13 => ?_)
  · have hok := hok.1 c_13
    refine zs_tabIn (kx := 8) (tgt := 128) C dX3_advance_4 c_13 (by decide) (by decide) rfl (by decide) ?_
    refine zs_aload_n (k := 0) C dX3_advance_128 rfl rfl ?_
    refine zs_aload_n (k := 1) C dX3_advance_129 rfl rfl ?_
    obtain ⟨h_14, hok⟩ := hok
    refine zk_callVv (As := [.ref (ad (68 + p1))]) (rest := []) C pk_X3_link (by decide) lkX3_162 (m_X3_link hJ (d + 1) σ p1 hp1 h_14) zc_recvS rfl rfl rfl (Nat.le_of_ble_eq_true rfl) dX3_advance_130 ?_
    refine zs_goto (tgt := 176) C dX3_advance_133 (by decide) ?_
    exact zs_vret C hr dX3_advance_176
  have hok := hok.2 c_13
  refine zs_if (fun c_15 => ?_) (fun c_15 => ?_)
  · have hok := hok.1 c_15
    refine zs_tabIn (kx := 9) (tgt := 136) C dX3_advance_4 c_15 (by decide) (by decide) rfl (by decide) ?_
    refine zs_aload_n (k := 0) C dX3_advance_136 rfl rfl ?_
    refine zs_aload_n (k := 1) C dX3_advance_137 rfl rfl ?_
    obtain ⟨h_16, hok⟩ := hok
    refine zk_callVv (As := [.ref (ad (68 + p1))]) (rest := []) C pk_X3_setBucket (by decide) lkX3_165 (m_X3_setBucket hJ (d + 2) σ p1 hp1 h_16) zc_recvS rfl rfl rfl (Nat.le_of_ble_eq_true rfl) dX3_advance_138 ?_
    refine zs_goto (tgt := 176) C dX3_advance_141 (by decide) ?_
    exact zs_vret C hr dX3_advance_176
  have hok := hok.2 c_15
  refine zs_if (fun c_17 => ?_) (fun c_17 => ?_)
  · have hok := hok.1 c_17
    refine zs_tabIn (kx := 10) (tgt := 144) C dX3_advance_4 c_17 (by decide) (by decide) rfl (by decide) ?_
    refine zs_aload_n (k := 0) C dX3_advance_144 rfl rfl ?_
    refine zs_aload_n (k := 1) C dX3_advance_145 rfl rfl ?_
    obtain ⟨h_18, hok⟩ := hok
    refine zk_callVv (As := [.ref (ad (68 + p1))]) (rest := []) C pk_X3_mark (by decide) lkX3_168 (m_X3_mark hJ (d + 1) σ p1 hp1 h_18) zc_recvS rfl rfl rfl (Nat.le_of_ble_eq_true rfl) dX3_advance_146 ?_
    refine zs_goto (tgt := 176) C dX3_advance_149 (by decide) ?_
    exact zs_vret C hr dX3_advance_176
  have hok := hok.2 c_17
  refine zs_if (fun c_19 => ?_) (fun c_19 => ?_)
  · have hok := hok.1 c_19
    refine zs_tabIn (kx := 11) (tgt := 152) C dX3_advance_4 c_19 (by decide) (by decide) rfl (by decide) ?_
    refine zs_aload_n (k := 0) C dX3_advance_152 rfl rfl ?_
    refine zs_aload_n (k := 1) C dX3_advance_153 rfl rfl ?_
    obtain ⟨h_20, hok⟩ := hok
    refine zk_callVv (As := [.ref (ad (68 + p1))]) (rest := []) C pk_X3_unlinkRemoved (by decide) lkX3_171 (m_X3_unlinkRemoved hJ (d + 1) σ p1 hp1 h_20) zc_recvS rfl rfl rfl (Nat.le_of_ble_eq_true rfl) dX3_advance_154 ?_
    refine zs_goto (tgt := 176) C dX3_advance_157 (by decide) ?_
    exact zs_vret C hr dX3_advance_176
  have hok := hok.2 c_19
  refine zs_if (fun c_21 => ?_) (fun c_21 => ?_)
  · have hok := hok.1 c_21
    refine zs_tabIn (kx := 12) (tgt := 160) C dX3_advance_4 c_21 (by decide) (by decide) rfl (by decide) ?_
    refine zs_aload_n (k := 0) C dX3_advance_160 rfl rfl ?_
    refine zs_aload_n (k := 1) C dX3_advance_161 rfl rfl ?_
    obtain ⟨h_22, hok⟩ := hok
    refine zk_callVv (As := [.ref (ad (68 + p1))]) (rest := []) C pk_X3_giveBack (by decide) lkX3_174 (m_X3_giveBack hJ (d + 1) σ p1 hp1 h_22) zc_recvS rfl rfl rfl (Nat.le_of_ble_eq_true rfl) dX3_advance_162 ?_
    refine zs_goto (tgt := 176) C dX3_advance_165 (by decide) ?_
    exact zs_vret C hr dX3_advance_176
  have hok := hok.2 c_21
  refine zs_if (fun c_23 => ?_) (fun c_23 => ?_)
  · have hok := hok.1 c_23
    refine zs_tabIn (kx := 13) (tgt := 168) C dX3_advance_4 c_23 (by decide) (by decide) rfl (by decide) ?_
    refine zs_aload_n (k := 0) C dX3_advance_168 rfl rfl ?_
    refine zs_aload_n (k := 1) C dX3_advance_169 rfl rfl ?_
    refine zk_callVv (As := [.ref (ad (68 + p1))]) (rest := []) C pk_X3_grow (by decide) lkX3_177 (m_X3_grow hJ (d + 1) σ p1 hp1) zc_recvS rfl rfl rfl (Nat.le_of_ble_eq_true rfl) dX3_advance_170 ?_
    refine zs_goto (tgt := 176) C dX3_advance_173 (by decide) ?_
    exact zs_vret C hr dX3_advance_176
  have hok := hok.2 c_23
  refine zs_tabOut (tgt := 176) C dX3_advance_4 (by have : ¬ (σ 10 p1).toInt = 1 := lv_neT c_1 rfl; have : ¬ (σ 10 p1).toInt = 2 := lv_neT c_2 rfl; have : ¬ (σ 10 p1).toInt = 3 := lv_neT c_4 rfl; have : ¬ (σ 10 p1).toInt = 4 := lv_neT c_5 rfl; have : ¬ (σ 10 p1).toInt = 5 := lv_neT c_7 rfl; have : ¬ (σ 10 p1).toInt = 6 := lv_neT c_9 rfl; have : ¬ (σ 10 p1).toInt = 7 := lv_neT c_11 rfl; have : ¬ (σ 10 p1).toInt = 8 := lv_neT c_13 rfl; have : ¬ (σ 10 p1).toInt = 9 := lv_neT c_15 rfl; have : ¬ (σ 10 p1).toInt = 10 := lv_neT c_17 rfl; have : ¬ (σ 10 p1).toInt = 11 := lv_neT c_19 rfl; have : ¬ (σ 10 p1).toInt = 12 := lv_neT c_21 rfl; have : ¬ (σ 10 p1).toInt = 13 := lv_neT c_23 rfl; omega) (by decide) ?_
  exact zs_vret C hr dX3_advance_176

def fn_X3_start (σ : zs_T) (x1 : Int32) (x2 : Int32) (x3 : Int32) (x4 : Int32) : zs_O := (if fr_X3_isProcess σ x1 = 0 then (σ, 0) else (if x2 < 0 then (σ, 0) else (if 2 < x2 then (σ, 0) else (if x3 < 0 then (σ, 0) else (if x3 < 256 then (if x4 < 0 then (σ, 0) else (if 1000000 < x4 then (σ, 0) else (if σ 10 x1.toNatClampNeg = 0 then ((fn_X2_begin σ x1.toNatClampNeg x2 x3 x4).1, 1) else (σ, 0)))) else (σ, 0))))))
set_option maxHeartbeats 4000000 in
set_option maxRecDepth 100000 in
theorem m_X3_start {l : Launch} {D : va_G} {cI cN cW : ClassId} {ad : Nat → Nat} (hJ : zs_J 88 ad) (d : Nat) (σ : zs_T) (x1 : Int32) (x2 : Int32) (x3 : Int32) (x4 : Int32) : zs_M l D vwCl (tysC cI cN cW) 88 ad (wC cI cN cW ad) yX3_start (Cond.code yX3_start cX3_start 6 (some .boolean) :: zw_G) (zw_rm (d + 1)) [.ref (ad 0), .int x1, .int x2, .int x3, .int x4] zs_vi σ (fn_X3_start σ x1 x2 x3 x4) := by
  refine zs_ofZ (cc := cX3_start) (nL := 6) (ret := (some .boolean)) (lv0 := [(0, .ref (ad 0)), (1, .int x1), (2, .int x2), (3, .int x3), (4, .int x4)]) (by decide) rfl hJ (Nat.le_of_ble_eq_true rfl) rfl ?_
  intro p e s m args below meth c C hr
  unfold fn_X3_start
  refine zs_iload_n (k := 1) C dX3_start_0 rfl rfl ?_
  refine zk_callSi (As := [.int x1]) (rest := []) C pk_X3_isProcess (by decide) lkX3_45 (m_X3_isProcess hJ d σ x1) rfl rfl (Nat.le_of_ble_eq_true rfl) dX3_start_1 ?_
  refine zs_if_eq (tgt := 16) C dX3_start_4 (by decide) (fun c_1 => ?_) (fun c_1 => ?_)
  · refine zs_iconst (v := 0) C dX3_start_16 (by decide) ?_
    exact zs_zret C hr rfl dX3_start_17
  · refine zs_iload_n (k := 2) C dX3_start_7 rfl rfl ?_
    refine zs_if_lt (tgt := 16) C dX3_start_8 (by decide) (fun c_2 => ?_) (fun c_2 => ?_)
    · refine zs_iconst (v := 0) C dX3_start_16 (by decide) ?_
      exact zs_zret C hr rfl dX3_start_17
    · refine zs_iload_n (k := 2) C dX3_start_11 rfl rfl ?_
      refine zs_iconst (v := 2) C dX3_start_12 (by decide) ?_
      refine zs_icmp_le (tgt := 18) C dX3_start_13 (by decide) (fun c_3 => ?_) (fun c_3 => ?_)
      · refine zs_iconst (v := 0) C dX3_start_16 (by decide) ?_
        exact zs_zret C hr rfl dX3_start_17
      · refine zs_iload_n (k := 3) C dX3_start_18 rfl rfl ?_
        refine zs_if_lt (tgt := 41) C dX3_start_19 (by decide) (fun c_4 => ?_) (fun c_4 => ?_)
        · refine zs_iconst (v := 0) C dX3_start_41 (by decide) ?_
          exact zs_zret C hr rfl dX3_start_42
        · refine zs_iload_n (k := 3) C dX3_start_22 rfl rfl ?_
          refine zs_sipush (v := 256) C dX3_start_23 (by decide) ?_
          refine zs_icmp_ge (tgt := 41) C dX3_start_26 (by decide) (fun c_5 => ?_) (fun c_5 => ?_)
          · refine zs_iload (k := 4) C dX3_start_29 rfl ?_
            refine zs_if_lt (tgt := 41) C dX3_start_31 (by decide) (fun c_6 => ?_) (fun c_6 => ?_)
            · refine zs_iconst (v := 0) C dX3_start_41 (by decide) ?_
              exact zs_zret C hr rfl dX3_start_42
            · refine zs_iload (k := 4) C dX3_start_34 rfl ?_
              refine zs_ldc (v := 1000000) C (zw_in lkX3_49) dX3_start_36 ?_
              refine zs_icmp_le (tgt := 43) C dX3_start_38 (by decide) (fun c_7 => ?_) (fun c_7 => ?_)
              · refine zs_iconst (v := 0) C dX3_start_41 (by decide) ?_
                exact zs_zret C hr rfl dX3_start_42
              · refine zs_aload_n (k := 0) C dX3_start_43 rfl rfl ?_
                refine gC_S_workers C lkX3_17 dX3_start_44 ?_
                refine zs_iload_n (k := 1) C dX3_start_47 rfl rfl ?_
                refine aC_workers C (zc_inProc c_1) dX3_start_48 ?_
                refine zs_astore (lv' := [(5, .ref (ad (68 + x1.toNatClampNeg))), (0, .ref (ad 0)), (1, .int x1), (2, .int x2), (3, .int x3), (4, .int x4)]) C dX3_start_49 (by decide) rfl ?_
                refine zs_aload (k := 0) C dX3_start_51 rfl ?_
                refine gC_Worker_place C (zs_lt (zc_inProc c_1)) lkX3_50 dX3_start_53 ?_
                refine zs_if_eq (tgt := 61) C dX3_start_56 (by decide) (fun c_8 => ?_) (fun c_8 => ?_)
                · refine zs_aload (k := 0) C dX3_start_61 rfl ?_
                  refine zs_iload_n (k := 3) C dX3_start_63 rfl rfl ?_
                  refine zs_iload_n (k := 4) C dX3_start_64 rfl rfl ?_
                  refine zs_iload (k := 5) C dX3_start_65 rfl ?_
                  refine zk_callVv (As := [.int x2, .int x3, .int x4]) (rest := []) C pk_X2_begin (by decide) lkX3_53 (m_X2_begin hJ d σ x1.toNatClampNeg x2 x3 x4 (zs_lt (zc_inProc c_1))) (zc_recvWorker (zs_lt (zc_inProc c_1))) rfl rfl rfl (Nat.le_of_ble_eq_true rfl) dX3_start_67 ?_
                  refine zs_iconst (v := 1) C dX3_start_70 (by decide) ?_
                  exact zs_zret C hr rfl dX3_start_71
                · refine zs_iconst (v := 0) C dX3_start_59 (by decide) ?_
                  exact zs_zret C hr rfl dX3_start_60
          · refine zs_iconst (v := 0) C dX3_start_41 (by decide) ?_
            exact zs_zret C hr rfl dX3_start_42

def fn_X3_step (σ : zs_T) (x1 : Int32) : zs_O := (if fr_X3_isProcess σ x1 = 0 then (σ, (-1)) else ((fn_X3_advance σ x1.toNatClampNeg).1, ((fn_X3_advance σ x1.toNatClampNeg).1) 10 x1.toNatClampNeg))
def ok_X3_step (σ : zs_T) (x1 : Int32) : Prop := (fr_X3_isProcess σ x1 = 0 → True) ∧ (¬ (fr_X3_isProcess σ x1 = 0) → ok_X3_advance σ x1.toNatClampNeg ∧ (True))
set_option maxHeartbeats 4000000 in
set_option maxRecDepth 100000 in
theorem m_X3_step {l : Launch} {D : va_G} {cI cN cW : ClassId} {ad : Nat → Nat} (hJ : zs_J 88 ad) (d : Nat) (σ : zs_T) (x1 : Int32) (hok : ok_X3_step σ x1) : zs_M l D vwCl (tysC cI cN cW) 88 ad (wC cI cN cW ad) yX3_step (Cond.code yX3_step cX3_step 3 (some .int) :: zw_G) (zw_rm (d + 6)) [.ref (ad 0), .int x1] zs_vi σ (fn_X3_step σ x1) := by
  refine zs_ofZ (cc := cX3_step) (nL := 3) (ret := (some .int)) (lv0 := [(0, .ref (ad 0)), (1, .int x1)]) (by decide) rfl hJ (Nat.le_of_ble_eq_true rfl) rfl ?_
  intro p e s m args below meth c C hr
  unfold ok_X3_step at hok
  unfold fn_X3_step
  refine zs_iload_n (k := 1) C dX3_step_0 rfl rfl ?_
  refine zk_callSi (As := [.int x1]) (rest := []) C pk_X3_isProcess (by decide) lkX3_45 (m_X3_isProcess hJ (d + 5) σ x1) rfl rfl (Nat.le_of_ble_eq_true rfl) dX3_step_1 ?_
  refine zs_if_ne (tgt := 9) C dX3_step_4 (by decide) (fun c_1 => ?_) (fun c_1 => ?_)
  · have hok := hok.1 c_1
    refine zs_iconst (v := (-1)) C dX3_step_7 (by decide) ?_
    exact zs_iret C hr dX3_step_8
  · have hok := hok.2 c_1
    refine zs_aload_n (k := 0) C dX3_step_9 rfl rfl ?_
    refine gC_S_workers C lkX3_17 dX3_step_10 ?_
    refine zs_iload_n (k := 1) C dX3_step_13 rfl rfl ?_
    refine aC_workers C (zc_inProc c_1) dX3_step_14 ?_
    refine zs_astore_n (lv' := [(2, .ref (ad (68 + x1.toNatClampNeg))), (0, .ref (ad 0)), (1, .int x1)]) C dX3_step_15 rfl (by decide) rfl ?_
    refine zs_aload_n (k := 1) C dX3_step_16 rfl rfl ?_
    refine zs_aload_n (k := 0) C dX3_step_17 rfl rfl ?_
    obtain ⟨h_2, hok⟩ := hok
    refine zk_callVv (As := [.ref (ad (68 + x1.toNatClampNeg))]) (rest := []) C pk_X3_advance (by decide) lkX3_57 (m_X3_advance hJ d σ x1.toNatClampNeg (zs_lt (zc_inProc c_1)) h_2) zc_recvS rfl rfl rfl (Nat.le_of_ble_eq_true rfl) dX3_step_18 ?_
    refine zs_aload_n (k := 0) C dX3_step_21 rfl rfl ?_
    refine gC_Worker_place C (zs_lt (zc_inProc c_1)) lkX3_50 dX3_step_22 ?_
    exact zs_iret C hr dX3_step_25

def fn_X3_run_L30 : Nat → zs_T → Int32 → Nat → Int32 → zs_O
  | 0, σ, _, _, _ => (σ, 0)
  | n + 1, σ, x2, p3, x4 => (if x4 < x2 then (if σ 10 p3 = 0 then (σ, x4) else (fn_X3_run_L30 n ((fn_X3_advance σ p3).1) x2 p3 (x4 + 1))) else (σ, x4))
def ok_X3_run_L30 : Nat → zs_T → Int32 → Nat → Int32 → Prop
  | 0, _, _, _, _ => False
  | n + 1, σ, x2, p3, x4 => (x4 < x2 → (σ 10 p3 = 0 → True) ∧ (¬ (σ 10 p3 = 0) → ok_X3_advance σ p3 ∧ ((ok_X3_run_L30 n ((fn_X3_advance σ p3).1) x2 p3 (x4 + 1))))) ∧ (¬ (x4 < x2) → True)
set_option maxHeartbeats 4000000 in
set_option maxRecDepth 100000 in
theorem lp_X3_run_L30 {p : Program} {l : Launch} {e : Env} {s : State} {m : MethodId} {args : Array Value} {below : List Frame} {meth : Method} {c : Code} {D : va_G} {cI cN cW : ClassId} {ad : Nat → Nat} (C : zs_C p s m args meth c cX3_run 5 (Cond.code yX3_run cX3_run 5 (some .int) :: zw_G) yX3_run.cls D vwCl (tysC cI cN cW) 88 ad) (hr : meth.sig.returnType = (some .int)) (d : Nat) : ∀ (n : Nat) (σ : zs_T) (x2 : Int32) (p3 : Nat) (x4 : Int32) (hp3 : p3 < 4), ok_X3_run_L30 n σ x2 p3 x4 → zs_Z p l e (zw_rm (d + 6)) s m args below meth c D vwCl 88 ad (wC cI cN cW ad) 5 zs_vi (fn_X3_run_L30 n σ x2 p3 x4) σ 30 [(0, .ref (ad 0)), (2, .int x2), (3, .ref (ad (68 + p3))), (4, .int x4)] [] := by
  have hJ := C.2.2.1
  intro n
  induction n with
  | zero => intro σ x2 p3 x4 hp3 hok; exact hok.elim
  | succ n ih =>
    intro σ x2 p3 x4 hp3 hok
    rw [ok_X3_run_L30] at hok
    rw [fn_X3_run_L30]
    refine zs_iload (k := 3) C dX3_run_30 rfl ?_
    refine zs_iload_n (k := 1) C dX3_run_32 rfl rfl ?_
    refine zs_icmp_ge (tgt := 54) C dX3_run_33 (by decide) (fun c_4 => ?_) (fun c_4 => ?_)
    · have hok := hok.1 c_4
      refine zs_aload_n (k := 2) C dX3_run_36 rfl rfl ?_
      refine gC_Worker_place C hp3 lkX3_50 dX3_run_37 ?_
      refine zs_if_eq (tgt := 54) C dX3_run_40 (by decide) (fun c_5 => ?_) (fun c_5 => ?_)
      · have hok := hok.1 c_5
        refine zs_iload (k := 3) C dX3_run_54 rfl ?_
        exact zs_iret C hr dX3_run_56
      · have hok := hok.2 c_5
        refine zs_aload_n (k := 0) C dX3_run_43 rfl rfl ?_
        refine zs_aload_n (k := 2) C dX3_run_44 rfl rfl ?_
        obtain ⟨h_6, hok⟩ := hok
        refine zk_callVv (As := [.ref (ad (68 + p3))]) (rest := []) C pk_X3_advance (by decide) lkX3_57 (m_X3_advance hJ d σ p3 hp3 h_6) zc_recvS rfl rfl rfl (Nat.le_of_ble_eq_true rfl) dX3_run_45 ?_
        refine zs_iinc (k := 3) (v := x4 + 1) (lv' := [(4, .int (x4 + 1)), (0, .ref (ad 0)), (2, .int x2), (3, .ref (ad (68 + p3)))]) C dX3_run_48 rfl rfl (by decide) rfl ?_
        refine zs_goto (tgt := 30) C dX3_run_51 (by decide) ?_
        exact zs_sub [1, 2, 3, 0] rfl (ih ((fn_X3_advance σ p3).1) x2 p3 (x4 + 1) hp3 hok)
    · have hok := hok.2 c_4
      refine zs_iload (k := 3) C dX3_run_54 rfl ?_
      exact zs_iret C hr dX3_run_56
def fn_X3_run (σ : zs_T) (x1 : Int32) (x2 : Int32) : zs_O := (if fr_X3_isProcess σ x1 = 0 then (σ, (-1)) else (if x2 < 0 then (σ, (-1)) else (if 1000 < x2 then (σ, (-1)) else (fn_X3_run_L30 1001 σ x2 x1.toNatClampNeg 0))))
def ok_X3_run (σ : zs_T) (x1 : Int32) (x2 : Int32) : Prop := (fr_X3_isProcess σ x1 = 0 → True) ∧ (¬ (fr_X3_isProcess σ x1 = 0) → (x2 < 0 → True) ∧ (¬ (x2 < 0) → (1000 < x2 → True) ∧ (¬ (1000 < x2) → (ok_X3_run_L30 1001 σ x2 x1.toNatClampNeg 0))))
set_option maxHeartbeats 4000000 in
set_option maxRecDepth 100000 in
theorem m_X3_run {l : Launch} {D : va_G} {cI cN cW : ClassId} {ad : Nat → Nat} (hJ : zs_J 88 ad) (d : Nat) (σ : zs_T) (x1 : Int32) (x2 : Int32) (hok : ok_X3_run σ x1 x2) : zs_M l D vwCl (tysC cI cN cW) 88 ad (wC cI cN cW ad) yX3_run (Cond.code yX3_run cX3_run 5 (some .int) :: zw_G) (zw_rm (d + 6)) [.ref (ad 0), .int x1, .int x2] zs_vi σ (fn_X3_run σ x1 x2) := by
  refine zs_ofZ (cc := cX3_run) (nL := 5) (ret := (some .int)) (lv0 := [(0, .ref (ad 0)), (1, .int x1), (2, .int x2)]) (by decide) rfl hJ (Nat.le_of_ble_eq_true rfl) rfl ?_
  intro p e s m args below meth c C hr
  unfold ok_X3_run at hok
  unfold fn_X3_run
  refine zs_iload_n (k := 1) C dX3_run_0 rfl rfl ?_
  refine zk_callSi (As := [.int x1]) (rest := []) C pk_X3_isProcess (by decide) lkX3_45 (m_X3_isProcess hJ (d + 5) σ x1) rfl rfl (Nat.le_of_ble_eq_true rfl) dX3_run_1 ?_
  refine zs_if_eq (tgt := 18) C dX3_run_4 (by decide) (fun c_1 => ?_) (fun c_1 => ?_)
  · have hok := hok.1 c_1
    refine zs_iconst (v := (-1)) C dX3_run_18 (by decide) ?_
    exact zs_iret C hr dX3_run_19
  · have hok := hok.2 c_1
    refine zs_iload_n (k := 2) C dX3_run_7 rfl rfl ?_
    refine zs_if_lt (tgt := 18) C dX3_run_8 (by decide) (fun c_2 => ?_) (fun c_2 => ?_)
    · have hok := hok.1 c_2
      refine zs_iconst (v := (-1)) C dX3_run_18 (by decide) ?_
      exact zs_iret C hr dX3_run_19
    · have hok := hok.2 c_2
      refine zs_iload_n (k := 2) C dX3_run_11 rfl rfl ?_
      refine zs_sipush (v := 1000) C dX3_run_12 (by decide) ?_
      refine zs_icmp_le (tgt := 20) C dX3_run_15 (by decide) (fun c_3 => ?_) (fun c_3 => ?_)
      · have hok := hok.1 c_3
        refine zs_iconst (v := (-1)) C dX3_run_18 (by decide) ?_
        exact zs_iret C hr dX3_run_19
      · have hok := hok.2 c_3
        refine zs_aload_n (k := 0) C dX3_run_20 rfl rfl ?_
        refine gC_S_workers C lkX3_17 dX3_run_21 ?_
        refine zs_iload_n (k := 1) C dX3_run_24 rfl rfl ?_
        refine aC_workers C (zc_inProc c_1) dX3_run_25 ?_
        refine zs_astore_n (lv' := [(3, .ref (ad (68 + x1.toNatClampNeg))), (0, .ref (ad 0)), (1, .int x1), (2, .int x2)]) C dX3_run_26 rfl (by decide) rfl ?_
        refine zs_iconst (v := 0) C dX3_run_27 (by decide) ?_
        refine zs_istore (lv' := [(4, .int 0), (3, .ref (ad (68 + x1.toNatClampNeg))), (0, .ref (ad 0)), (1, .int x1), (2, .int x2)]) C dX3_run_28 (by decide) rfl ?_
        exact zs_sub [2, 4, 1, 0] rfl (lp_X3_run_L30 C hr d 1001 σ x2 x1.toNatClampNeg 0 (zs_lt (zc_inProc c_1)) hok)

def fr_X3_bucket (σ : zs_T) (x1 : Int32) : Int32 := fr_X3_nodeOfBucket σ x1
set_option maxHeartbeats 4000000 in
set_option maxRecDepth 100000 in
theorem m_X3_bucket {l : Launch} {D : va_G} {cI cN cW : ClassId} {ad : Nat → Nat} (hJ : zs_J 88 ad) (d : Nat) (σ : zs_T) (x1 : Int32) : zs_M l D vwCl (tysC cI cN cW) 88 ad (wC cI cN cW ad) yX3_bucket (Cond.code yX3_bucket cX3_bucket 2 (some .int) :: zw_G) (zw_rm (d + 2)) [.ref (ad 0), .int x1] zs_vi σ (σ, fr_X3_bucket σ x1) := by
  refine zs_ofZ (cc := cX3_bucket) (nL := 2) (ret := (some .int)) (lv0 := [(0, .ref (ad 0)), (1, .int x1)]) (by decide) rfl hJ (Nat.le_of_ble_eq_true rfl) rfl ?_
  intro p e s m args below meth c C hr
  unfold fr_X3_bucket
  refine zs_aload_n (k := 0) C dX3_bucket_0 rfl rfl ?_
  refine zs_iload_n (k := 1) C dX3_bucket_1 rfl rfl ?_
  refine zk_callVi (As := [.int x1]) (rest := []) C pk_X3_nodeOfBucket (by decide) lkX3_135 (m_X3_nodeOfBucket hJ d σ x1) zc_recvS rfl rfl rfl (Nat.le_of_ble_eq_true rfl) dX3_bucket_2 ?_
  exact zs_iret C hr dX3_bucket_5

def fr_X3_total (σ : zs_T) (x1 : Int32) : Int32 := (if x1 = 0 then σ 32 0 else (if x1 = 1 then σ 33 0 else (if x1 = 2 then σ 34 0 else (if x1 = 3 then fr_X3_countNodes σ 0 else (if x1 = 4 then fr_X3_countNodes σ 2 else (-1))))))
def ok_X3_total (σ : zs_T) (x1 : Int32) : Prop := (x1 = 0 → True) ∧ (¬ (x1 = 0) → (x1 = 1 → True) ∧ (¬ (x1 = 1) → (x1 = 2 → True) ∧ (¬ (x1 = 2) → (x1 = 3 → ok_X3_countNodes σ 0 ∧ (True)) ∧ (¬ (x1 = 3) → (x1 = 4 → ok_X3_countNodes σ 2 ∧ (True)) ∧ (¬ (x1 = 4) → True)))))
set_option maxHeartbeats 4000000 in
set_option maxRecDepth 100000 in
theorem m_X3_total {l : Launch} {D : va_G} {cI cN cW : ClassId} {ad : Nat → Nat} (hJ : zs_J 88 ad) (d : Nat) (σ : zs_T) (x1 : Int32) (hok : ok_X3_total σ x1) : zs_M l D vwCl (tysC cI cN cW) 88 ad (wC cI cN cW ad) yX3_total (Cond.code yX3_total cX3_total 2 (some .int) :: zw_G) (zw_rm (d + 1)) [.ref (ad 0), .int x1] zs_vi σ (σ, fr_X3_total σ x1) := by
  refine zs_ofZ (cc := cX3_total) (nL := 2) (ret := (some .int)) (lv0 := [(0, .ref (ad 0)), (1, .int x1)]) (by decide) rfl hJ (Nat.le_of_ble_eq_true rfl) rfl ?_
  intro p e s m args below meth c C hr
  unfold ok_X3_total at hok
  unfold fr_X3_total
  refine zs_iload_n (k := 1) C dX3_total_0 rfl rfl ?_
  refine zs_ifP (fun c_1 => ?_) (fun c_1 => ?_)
  · have hok := hok.1 c_1
    refine zs_tabIn (kx := 0) (tgt := 36) C dX3_total_1 c_1 (by decide) (by decide) rfl (by decide) ?_
    refine zs_aload_n (k := 0) C dX3_total_36 rfl rfl ?_
    refine gC_S_size C lkX3_25 dX3_total_37 ?_
    exact zs_iret C hr dX3_total_40
  have hok := hok.2 c_1
  refine zs_ifP (fun c_2 => ?_) (fun c_2 => ?_)
  · have hok := hok.1 c_2
    refine zs_tabIn (kx := 1) (tgt := 41) C dX3_total_1 c_2 (by decide) (by decide) rfl (by decide) ?_
    refine zs_aload_n (k := 0) C dX3_total_41 rfl rfl ?_
    refine gC_S_count C lkX3_29 dX3_total_42 ?_
    exact zs_iret C hr dX3_total_45
  have hok := hok.2 c_2
  refine zs_ifP (fun c_3 => ?_) (fun c_3 => ?_)
  · have hok := hok.1 c_3
    refine zs_tabIn (kx := 2) (tgt := 46) C dX3_total_1 c_3 (by decide) (by decide) rfl (by decide) ?_
    refine zs_aload_n (k := 0) C dX3_total_46 rfl rfl ?_
    refine gC_S_era C lkX3_32 dX3_total_47 ?_
    exact zs_iret C hr dX3_total_50
  have hok := hok.2 c_3
  refine zs_ifP (fun c_4 => ?_) (fun c_4 => ?_)
  · have hok := hok.1 c_4
    refine zs_tabIn (kx := 3) (tgt := 51) C dX3_total_1 c_4 (by decide) (by decide) rfl (by decide) ?_
    refine zs_aload_n (k := 0) C dX3_total_51 rfl rfl ?_
    refine zs_iconst (v := 0) C dX3_total_52 (by decide) ?_
    obtain ⟨h_5, hok⟩ := hok
    refine zk_callVi (As := [.int 0]) (rest := []) C pk_X3_countNodes (by decide) lkX3_138 (m_X3_countNodes hJ d σ 0 h_5) zc_recvS rfl rfl rfl (Nat.le_of_ble_eq_true rfl) dX3_total_53 ?_
    exact zs_iret C hr dX3_total_56
  have hok := hok.2 c_4
  refine zs_ifP (fun c_6 => ?_) (fun c_6 => ?_)
  · have hok := hok.1 c_6
    refine zs_tabIn (kx := 4) (tgt := 57) C dX3_total_1 c_6 (by decide) (by decide) rfl (by decide) ?_
    refine zs_aload_n (k := 0) C dX3_total_57 rfl rfl ?_
    refine zs_iconst (v := 2) C dX3_total_58 (by decide) ?_
    obtain ⟨h_7, hok⟩ := hok
    refine zk_callVi (As := [.int 2]) (rest := []) C pk_X3_countNodes (by decide) lkX3_138 (m_X3_countNodes hJ d σ 2 h_7) zc_recvS rfl rfl rfl (Nat.le_of_ble_eq_true rfl) dX3_total_59 ?_
    exact zs_iret C hr dX3_total_62
  have hok := hok.2 c_6
  refine zs_tabOut (tgt := 63) C dX3_total_1 (by have : ¬ (x1).toInt = 0 := lv_neT c_1 rfl; have : ¬ (x1).toInt = 1 := lv_neT c_2 rfl; have : ¬ (x1).toInt = 2 := lv_neT c_3 rfl; have : ¬ (x1).toInt = 3 := lv_neT c_4 rfl; have : ¬ (x1).toInt = 4 := lv_neT c_6 rfl; omega) (by decide) ?_
  refine zs_iconst (v := (-1)) C dX3_total_63 (by decide) ?_
  exact zs_iret C hr dX3_total_64

def fr_X3_result (σ : zs_T) (x1 : Int32) : Int32 := (if fr_X3_isProcess σ x1 = 0 then 0 else σ 26 x1.toNatClampNeg)
def ok_X3_result (σ : zs_T) (x1 : Int32) : Prop := (fr_X3_isProcess σ x1 = 0 → False) ∧ (¬ (fr_X3_isProcess σ x1 = 0) → True)
set_option maxHeartbeats 4000000 in
set_option maxRecDepth 100000 in
theorem m_X3_result {l : Launch} {D : va_G} {cI cN cW : ClassId} {ad : Nat → Nat} (hJ : zs_J 88 ad) (d : Nat) (σ : zs_T) (x1 : Int32) (hok : ok_X3_result σ x1) : zs_M l D vwCl (tysC cI cN cW) 88 ad (wC cI cN cW ad) yX3_result (Cond.code yX3_result cX3_result 2 (some .int) :: zw_G) (zw_rm (d + 1)) [.ref (ad 0), .int x1] zs_vi σ (σ, fr_X3_result σ x1) := by
  refine zs_ofZ (cc := cX3_result) (nL := 2) (ret := (some .int)) (lv0 := [(0, .ref (ad 0)), (1, .int x1)]) (by decide) rfl hJ (Nat.le_of_ble_eq_true rfl) rfl ?_
  intro p e s m args below meth c C hr
  unfold ok_X3_result at hok
  unfold fr_X3_result
  refine zs_iload_n (k := 1) C dX3_result_0 rfl rfl ?_
  refine zk_callSi (As := [.int x1]) (rest := []) C pk_X3_isProcess (by decide) lkX3_45 (m_X3_isProcess hJ d σ x1) rfl rfl (Nat.le_of_ble_eq_true rfl) dX3_result_1 ?_
  refine zs_if_neP (tgt := 17) C dX3_result_4 (by decide) (fun c_1 => ?_) (fun c_1 => ?_)
  · have hok := hok.1 c_1
    exact hok.elim
  · have hok := hok.2 c_1
    refine zs_aload_n (k := 0) C dX3_result_17 rfl rfl ?_
    refine gC_S_workers C lkX3_17 dX3_result_18 ?_
    refine zs_iload_n (k := 1) C dX3_result_21 rfl rfl ?_
    refine aC_workers C (zc_inProc c_1) dX3_result_22 ?_
    refine gC_Worker_latest C (zs_lt (zc_inProc c_1)) lkX3_68 dX3_result_23 ?_
    exact zs_iret C hr dX3_result_26

def fr_X3_process (σ : zs_T) (x1 : Int32) (x2 : Int32) : Int32 := (if fr_X3_isProcess σ x1 = 0 then 0 else (if x2 = 0 then σ 10 x1.toNatClampNeg else (if x2 = 1 then σ 14 x1.toNatClampNeg else (if x2 = 2 then σ 15 x1.toNatClampNeg else (if x2 = 3 then σ 30 (4 + x1.toNatClampNeg) else (if x2 = 4 then σ 30 x1.toNatClampNeg else (if x2 = 5 then σ 18 x1.toNatClampNeg else (if x2 = 6 then σ 19 x1.toNatClampNeg else (if x2 = 7 then σ 20 x1.toNatClampNeg else (if x2 = 8 then σ 22 x1.toNatClampNeg else 0))))))))))
def ok_X3_process (σ : zs_T) (x1 : Int32) (x2 : Int32) : Prop := (fr_X3_isProcess σ x1 = 0 → False) ∧ (¬ (fr_X3_isProcess σ x1 = 0) → (x2 = 0 → True) ∧ (¬ (x2 = 0) → (x2 = 1 → True) ∧ (¬ (x2 = 1) → (x2 = 2 → True) ∧ (¬ (x2 = 2) → (x2 = 3 → True) ∧ (¬ (x2 = 3) → (x2 = 4 → True) ∧ (¬ (x2 = 4) → (x2 = 5 → True) ∧ (¬ (x2 = 5) → (x2 = 6 → True) ∧ (¬ (x2 = 6) → (x2 = 7 → True) ∧ (¬ (x2 = 7) → (x2 = 8 → True) ∧ (¬ (x2 = 8) → False))))))))))
set_option maxHeartbeats 4000000 in
set_option maxRecDepth 100000 in
theorem m_X3_process {l : Launch} {D : va_G} {cI cN cW : ClassId} {ad : Nat → Nat} (hJ : zs_J 88 ad) (d : Nat) (σ : zs_T) (x1 : Int32) (x2 : Int32) (hok : ok_X3_process σ x1 x2) : zs_M l D vwCl (tysC cI cN cW) 88 ad (wC cI cN cW ad) yX3_process (Cond.code yX3_process cX3_process 4 (some .int) :: zw_G) (zw_rm (d + 1)) [.ref (ad 0), .int x1, .int x2] zs_vi σ (σ, fr_X3_process σ x1 x2) := by
  refine zs_ofZ (cc := cX3_process) (nL := 4) (ret := (some .int)) (lv0 := [(0, .ref (ad 0)), (1, .int x1), (2, .int x2)]) (by decide) rfl hJ (Nat.le_of_ble_eq_true rfl) rfl ?_
  intro p e s m args below meth c C hr
  unfold ok_X3_process at hok
  unfold fr_X3_process
  refine zs_iload_n (k := 1) C dX3_process_0 rfl rfl ?_
  refine zk_callSi (As := [.int x1]) (rest := []) C pk_X3_isProcess (by decide) lkX3_45 (m_X3_isProcess hJ d σ x1) rfl rfl (Nat.le_of_ble_eq_true rfl) dX3_process_1 ?_
  refine zs_if_neP (tgt := 17) C dX3_process_4 (by decide) (fun c_1 => ?_) (fun c_1 => ?_)
  · have hok := hok.1 c_1
    exact hok.elim
  · have hok := hok.2 c_1
    refine zs_aload_n (k := 0) C dX3_process_17 rfl rfl ?_
    refine gC_S_workers C lkX3_17 dX3_process_18 ?_
    refine zs_iload_n (k := 1) C dX3_process_21 rfl rfl ?_
    refine aC_workers C (zc_inProc c_1) dX3_process_22 ?_
    refine zs_astore_n (lv' := [(3, .ref (ad (68 + x1.toNatClampNeg))), (0, .ref (ad 0)), (1, .int x1), (2, .int x2)]) C dX3_process_23 rfl (by decide) rfl ?_
    refine zs_iload_n (k := 3) C dX3_process_24 rfl rfl ?_
    refine zs_ifP (fun c_2 => ?_) (fun c_2 => ?_)
    · have hok := hok.1 c_2
      refine zs_tabIn (kx := 0) (tgt := 76) C dX3_process_25 c_2 (by decide) (by decide) rfl (by decide) ?_
      refine zs_aload_n (k := 0) C dX3_process_76 rfl rfl ?_
      refine gC_Worker_place C (zs_lt (zc_inProc c_1)) lkX3_50 dX3_process_77 ?_
      exact zs_iret C hr dX3_process_80
    have hok := hok.2 c_2
    refine zs_ifP (fun c_3 => ?_) (fun c_3 => ?_)
    · have hok := hok.1 c_3
      refine zs_tabIn (kx := 1) (tgt := 81) C dX3_process_25 c_3 (by decide) (by decide) rfl (by decide) ?_
      refine zs_aload_n (k := 0) C dX3_process_81 rfl rfl ?_
      refine gC_Worker_low C (zs_lt (zc_inProc c_1)) lkX3_71 dX3_process_82 ?_
      exact zs_iret C hr dX3_process_85
    have hok := hok.2 c_3
    refine zs_ifP (fun c_4 => ?_) (fun c_4 => ?_)
    · have hok := hok.1 c_4
      refine zs_tabIn (kx := 2) (tgt := 86) C dX3_process_25 c_4 (by decide) (by decide) rfl (by decide) ?_
      refine zs_aload_n (k := 0) C dX3_process_86 rfl rfl ?_
      refine gC_Worker_high C (zs_lt (zc_inProc c_1)) lkX3_74 dX3_process_87 ?_
      exact zs_iret C hr dX3_process_90
    have hok := hok.2 c_4
    refine zs_ifP (fun c_5 => ?_) (fun c_5 => ?_)
    · have hok := hok.1 c_5
      refine zs_tabIn (kx := 3) (tgt := 91) C dX3_process_25 c_5 (by decide) (by decide) rfl (by decide) ?_
      refine zs_aload_n (k := 0) C dX3_process_91 rfl rfl ?_
      refine gC_Worker_row C (zs_lt (zc_inProc c_1)) lkX3_77 dX3_process_92 ?_
      refine gC_Num_length C (zc_8b (zs_lt (zc_inProc c_1))) lkX3_81 dX3_process_95 ?_
      exact zs_iret C hr dX3_process_98
    have hok := hok.2 c_5
    refine zs_ifP (fun c_6 => ?_) (fun c_6 => ?_)
    · have hok := hok.1 c_6
      refine zs_tabIn (kx := 4) (tgt := 99) C dX3_process_25 c_6 (by decide) (by decide) rfl (by decide) ?_
      refine zs_aload_n (k := 0) C dX3_process_99 rfl rfl ?_
      refine gC_Worker_stack C (zs_lt (zc_inProc c_1)) lkX3_86 dX3_process_100 ?_
      refine gC_Num_length C (zc_8a (zs_lt (zc_inProc c_1))) lkX3_81 dX3_process_103 ?_
      exact zs_iret C hr dX3_process_106
    have hok := hok.2 c_6
    refine zs_ifP (fun c_7 => ?_) (fun c_7 => ?_)
    · have hok := hok.1 c_7
      refine zs_tabIn (kx := 5) (tgt := 107) C dX3_process_25 c_7 (by decide) (by decide) rfl (by decide) ?_
      refine zs_aload_n (k := 0) C dX3_process_107 rfl rfl ?_
      refine gC_Worker_prev C (zs_lt (zc_inProc c_1)) lkX3_89 dX3_process_108 ?_
      exact zs_iret C hr dX3_process_111
    have hok := hok.2 c_7
    refine zs_ifP (fun c_8 => ?_) (fun c_8 => ?_)
    · have hok := hok.1 c_8
      refine zs_tabIn (kx := 6) (tgt := 112) C dX3_process_25 c_8 (by decide) (by decide) rfl (by decide) ?_
      refine zs_aload_n (k := 0) C dX3_process_112 rfl rfl ?_
      refine gC_Worker_cur C (zs_lt (zc_inProc c_1)) lkX3_92 dX3_process_113 ?_
      exact zs_iret C hr dX3_process_116
    have hok := hok.2 c_8
    refine zs_ifP (fun c_9 => ?_) (fun c_9 => ?_)
    · have hok := hok.1 c_9
      refine zs_tabIn (kx := 7) (tgt := 117) C dX3_process_25 c_9 (by decide) (by decide) rfl (by decide) ?_
      refine zs_aload_n (k := 0) C dX3_process_117 rfl rfl ?_
      refine gC_Worker_nxt C (zs_lt (zc_inProc c_1)) lkX3_95 dX3_process_118 ?_
      exact zs_iret C hr dX3_process_121
    have hok := hok.2 c_9
    refine zs_ifP (fun c_10 => ?_) (fun c_10 => ?_)
    · have hok := hok.1 c_10
      refine zs_tabIn (kx := 8) (tgt := 122) C dX3_process_25 c_10 (by decide) (by decide) rfl (by decide) ?_
      refine zs_aload_n (k := 0) C dX3_process_122 rfl rfl ?_
      refine gC_Worker_own C (zs_lt (zc_inProc c_1)) lkX3_98 dX3_process_123 ?_
      exact zs_iret C hr dX3_process_126
    have hok := hok.2 c_10
    refine zs_tabOut (tgt := 127) C dX3_process_25 (by have : ¬ (x2).toInt = 0 := lv_neT c_2 rfl; have : ¬ (x2).toInt = 1 := lv_neT c_3 rfl; have : ¬ (x2).toInt = 2 := lv_neT c_4 rfl; have : ¬ (x2).toInt = 3 := lv_neT c_5 rfl; have : ¬ (x2).toInt = 4 := lv_neT c_6 rfl; have : ¬ (x2).toInt = 5 := lv_neT c_7 rfl; have : ¬ (x2).toInt = 6 := lv_neT c_8 rfl; have : ¬ (x2).toInt = 7 := lv_neT c_9 rfl; have : ¬ (x2).toInt = 8 := lv_neT c_10 rfl; omega) (by decide) ?_
    exact hok.elim

def fr_X3_node (σ : zs_T) (x1 : Int32) (x2 : Int32) : Int32 := (if fr_X3_isNode σ x1 = 0 then 0 else (if x2 = 0 then σ 0 x1.toNatClampNeg else (if x2 = 1 then σ 1 x1.toNatClampNeg else (if x2 = 2 then σ 2 x1.toNatClampNeg else (if x2 = 3 then (if σ 3 x1.toNatClampNeg = 0 then 0 else 1) else (if x2 = 4 then σ 4 x1.toNatClampNeg else (if x2 = 5 then σ 5 x1.toNatClampNeg else (if x2 = 6 then σ 6 x1.toNatClampNeg else (if x2 = 7 then σ 7 x1.toNatClampNeg else 0)))))))))
def ok_X3_node (σ : zs_T) (x1 : Int32) (x2 : Int32) : Prop := (fr_X3_isNode σ x1 = 0 → False) ∧ (¬ (fr_X3_isNode σ x1 = 0) → (x2 = 0 → True) ∧ (¬ (x2 = 0) → (x2 = 1 → True) ∧ (¬ (x2 = 1) → (x2 = 2 → True) ∧ (¬ (x2 = 2) → (x2 = 3 → True) ∧ (¬ (x2 = 3) → (x2 = 4 → True) ∧ (¬ (x2 = 4) → (x2 = 5 → True) ∧ (¬ (x2 = 5) → (x2 = 6 → True) ∧ (¬ (x2 = 6) → (x2 = 7 → True) ∧ (¬ (x2 = 7) → False)))))))))
set_option maxHeartbeats 4000000 in
set_option maxRecDepth 100000 in
theorem m_X3_node {l : Launch} {D : va_G} {cI cN cW : ClassId} {ad : Nat → Nat} (hJ : zs_J 88 ad) (d : Nat) (σ : zs_T) (x1 : Int32) (x2 : Int32) (hok : ok_X3_node σ x1 x2) : zs_M l D vwCl (tysC cI cN cW) 88 ad (wC cI cN cW ad) yX3_node (Cond.code yX3_node cX3_node 4 (some .int) :: zw_G) (zw_rm (d + 1)) [.ref (ad 0), .int x1, .int x2] zs_vi σ (σ, fr_X3_node σ x1 x2) := by
  refine zs_ofZ (cc := cX3_node) (nL := 4) (ret := (some .int)) (lv0 := [(0, .ref (ad 0)), (1, .int x1), (2, .int x2)]) (by decide) rfl hJ (Nat.le_of_ble_eq_true rfl) rfl ?_
  intro p e s m args below meth c C hr
  unfold ok_X3_node at hok
  unfold fr_X3_node
  refine zs_iload_n (k := 1) C dX3_node_0 rfl rfl ?_
  refine zk_callSi (As := [.int x1]) (rest := []) C pk_X3_isNode (by decide) lkX3_103 (m_X3_isNode hJ d σ x1) rfl rfl (Nat.le_of_ble_eq_true rfl) dX3_node_1 ?_
  refine zs_if_neP (tgt := 17) C dX3_node_4 (by decide) (fun c_1 => ?_) (fun c_1 => ?_)
  · have hok := hok.1 c_1
    exact hok.elim
  · have hok := hok.2 c_1
    refine zs_aload_n (k := 0) C dX3_node_17 rfl rfl ?_
    refine gC_S_nodes C lkX3_11 dX3_node_18 ?_
    refine zs_iload_n (k := 1) C dX3_node_21 rfl rfl ?_
    refine aC_nodes C (zc_inNode c_1) dX3_node_22 ?_
    refine zs_astore_n (lv' := [(3, .ref (ad (4 + x1.toNatClampNeg))), (0, .ref (ad 0)), (1, .int x1), (2, .int x2)]) C dX3_node_23 rfl (by decide) rfl ?_
    refine zs_iload_n (k := 3) C dX3_node_24 rfl rfl ?_
    refine zs_ifP (fun c_2 => ?_) (fun c_2 => ?_)
    · have hok := hok.1 c_2
      refine zs_tabIn (kx := 0) (tgt := 72) C dX3_node_25 c_2 (by decide) (by decide) rfl (by decide) ?_
      refine zs_aload_n (k := 0) C dX3_node_72 rfl rfl ?_
      refine gC_Node_state C (zs_lt (zc_inNode c_1)) lkX3_108 dX3_node_73 ?_
      exact zs_iret C hr dX3_node_76
    have hok := hok.2 c_2
    refine zs_ifP (fun c_3 => ?_) (fun c_3 => ?_)
    · have hok := hok.1 c_3
      refine zs_tabIn (kx := 1) (tgt := 77) C dX3_node_25 c_3 (by decide) (by decide) rfl (by decide) ?_
      refine zs_aload_n (k := 0) C dX3_node_77 rfl rfl ?_
      refine gC_Node_order C (zs_lt (zc_inNode c_1)) lkX3_111 dX3_node_78 ?_
      exact zs_iret C hr dX3_node_81
    have hok := hok.2 c_3
    refine zs_ifP (fun c_4 => ?_) (fun c_4 => ?_)
    · have hok := hok.1 c_4
      refine zs_tabIn (kx := 2) (tgt := 82) C dX3_node_25 c_4 (by decide) (by decide) rfl (by decide) ?_
      refine zs_aload_n (k := 0) C dX3_node_82 rfl rfl ?_
      refine gC_Node_next C (zs_lt (zc_inNode c_1)) lkX3_114 dX3_node_83 ?_
      exact zs_iret C hr dX3_node_86
    have hok := hok.2 c_4
    refine zs_ifP (fun c_5 => ?_) (fun c_5 => ?_)
    · have hok := hok.1 c_5
      refine zs_tabIn (kx := 3) (tgt := 87) C dX3_node_25 c_5 (by decide) (by decide) rfl (by decide) ?_
      refine zs_aload_n (k := 0) C dX3_node_87 rfl rfl ?_
      refine gC_Node_marked C (zs_lt (zc_inNode c_1)) lkX3_117 dX3_node_88 ?_
      refine zs_if_eqP (tgt := 98) C dX3_node_91 (by decide) (fun c_6 => ?_) (fun c_6 => ?_)
      · refine zs_iconst (v := 0) C dX3_node_98 (by decide) ?_
        exact zs_iret C hr dX3_node_99
      · refine zs_iconst (v := 1) C dX3_node_94 (by decide) ?_
        refine zs_goto (tgt := 99) C dX3_node_95 (by decide) ?_
        exact zs_iret C hr dX3_node_99
    have hok := hok.2 c_5
    refine zs_ifP (fun c_7 => ?_) (fun c_7 => ?_)
    · have hok := hok.1 c_7
      refine zs_tabIn (kx := 4) (tgt := 100) C dX3_node_25 c_7 (by decide) (by decide) rfl (by decide) ?_
      refine zs_aload_n (k := 0) C dX3_node_100 rfl rfl ?_
      refine gC_Node_key C (zs_lt (zc_inNode c_1)) lkX3_121 dX3_node_101 ?_
      exact zs_iret C hr dX3_node_104
    have hok := hok.2 c_7
    refine zs_ifP (fun c_8 => ?_) (fun c_8 => ?_)
    · have hok := hok.1 c_8
      refine zs_tabIn (kx := 5) (tgt := 105) C dX3_node_25 c_8 (by decide) (by decide) rfl (by decide) ?_
      refine zs_aload_n (k := 0) C dX3_node_105 rfl rfl ?_
      refine gC_Node_value C (zs_lt (zc_inNode c_1)) lkX3_124 dX3_node_106 ?_
      exact zs_iret C hr dX3_node_109
    have hok := hok.2 c_8
    refine zs_ifP (fun c_9 => ?_) (fun c_9 => ?_)
    · have hok := hok.1 c_9
      refine zs_tabIn (kx := 6) (tgt := 110) C dX3_node_25 c_9 (by decide) (by decide) rfl (by decide) ?_
      refine zs_aload_n (k := 0) C dX3_node_110 rfl rfl ?_
      refine gC_Node_born C (zs_lt (zc_inNode c_1)) lkX3_127 dX3_node_111 ?_
      exact zs_iret C hr dX3_node_114
    have hok := hok.2 c_9
    refine zs_ifP (fun c_10 => ?_) (fun c_10 => ?_)
    · have hok := hok.1 c_10
      refine zs_tabIn (kx := 7) (tgt := 115) C dX3_node_25 c_10 (by decide) (by decide) rfl (by decide) ?_
      refine zs_aload_n (k := 0) C dX3_node_115 rfl rfl ?_
      refine gC_Node_died C (zs_lt (zc_inNode c_1)) lkX3_130 dX3_node_116 ?_
      exact zs_iret C hr dX3_node_119
    have hok := hok.2 c_10
    refine zs_tabOut (tgt := 120) C dX3_node_25 (by have : ¬ (x2).toInt = 0 := lv_neT c_2 rfl; have : ¬ (x2).toInt = 1 := lv_neT c_3 rfl; have : ¬ (x2).toInt = 2 := lv_neT c_4 rfl; have : ¬ (x2).toInt = 3 := lv_neT c_5 rfl; have : ¬ (x2).toInt = 4 := lv_neT c_7 rfl; have : ¬ (x2).toInt = 5 := lv_neT c_8 rfl; have : ¬ (x2).toInt = 6 := lv_neT c_9 rfl; have : ¬ (x2).toInt = 7 := lv_neT c_10 rfl; omega) (by decide) ?_
    exact hok.elim
end
