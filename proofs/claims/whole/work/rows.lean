section
-- ===== PART A: goes FIRST, ahead of the names: the tables' words, and 'selects' of the private methods out of them =====
/-- a private method of a class that the tables say can be made, by its rows of tables_1 -/
def lw_okq (q : MethodName × Nat) : Prop := (q.1.cls ≠ "java/lang/invoke/MethodHandle" ∧ q.1.cls ≠ "java/lang/invoke/VarHandle") ∧ Cond.instantiable q.1.cls q.2 ∈ tables_1 ∧ Cond.privateMethod q.1 ∈ tables_1 ∧ Cond.instanceMethod q.1 ∈ tables_1
theorem lw_p0 : lw_okq (⟨"HashLinkedWeb", "replicaAt", "(I)LHashLinkedWeb$Replica;"⟩, 4) := ⟨⟨by decide +kernel, by decide +kernel⟩, List.mem_of_getElem? (i := 20) (by decide +kernel), List.mem_of_getElem? (i := 160) (by decide +kernel), List.mem_of_getElem? (i := 161) (by decide +kernel)⟩
theorem lw_p1 : lw_okq (⟨"HashLinkedWeb$Replica", "receive", "(LHashLinkedWeb$Operation;)I"⟩, 5) := ⟨⟨by decide +kernel, by decide +kernel⟩, List.mem_of_getElem? (i := 62) (by decide +kernel), List.mem_of_getElem? (i := 250) (by decide +kernel), List.mem_of_getElem? (i := 251) (by decide +kernel)⟩
theorem lw_p2 : lw_okq (⟨"HashLinkedWeb$Operation", "linksGrow", "()Z"⟩, 6) := ⟨⟨by decide +kernel, by decide +kernel⟩, List.mem_of_getElem? (i := 186) (by decide +kernel), List.mem_of_getElem? (i := 269) (by decide +kernel), List.mem_of_getElem? (i := 270) (by decide +kernel)⟩
theorem lw_p3 : lw_okq (⟨"HashLinkedWeb$Replica", "holdsLinks", "(LHashLinkedWeb$Operation;)Z"⟩, 5) := ⟨⟨by decide +kernel, by decide +kernel⟩, List.mem_of_getElem? (i := 62) (by decide +kernel), List.mem_of_getElem? (i := 273) (by decide +kernel), List.mem_of_getElem? (i := 274) (by decide +kernel)⟩
theorem lw_p4 : lw_okq (⟨"HashLinkedWeb$Replica", "letWait", "(LHashLinkedWeb$Operation;)V"⟩, 5) := ⟨⟨by decide +kernel, by decide +kernel⟩, List.mem_of_getElem? (i := 62) (by decide +kernel), List.mem_of_getElem? (i := 277) (by decide +kernel), List.mem_of_getElem? (i := 278) (by decide +kernel)⟩
theorem lw_p5 : lw_okq (⟨"java/util/ArrayList", "add", "(Ljava/lang/Object;[Ljava/lang/Object;I)V"⟩, 3) := ⟨⟨by decide +kernel, by decide +kernel⟩, List.mem_of_getElem? (i := 70) (by decide +kernel), List.mem_of_getElem? (i := 304) (by decide +kernel), List.mem_of_getElem? (i := 305) (by decide +kernel)⟩
theorem lw_p6 : lw_okq (⟨"java/util/ArrayList", "grow", "()[Ljava/lang/Object;"⟩, 3) := ⟨⟨by decide +kernel, by decide +kernel⟩, List.mem_of_getElem? (i := 70) (by decide +kernel), List.mem_of_getElem? (i := 308) (by decide +kernel), List.mem_of_getElem? (i := 309) (by decide +kernel)⟩
theorem lw_p7 : lw_okq (⟨"java/util/ArrayList", "grow", "(I)[Ljava/lang/Object;"⟩, 3) := ⟨⟨by decide +kernel, by decide +kernel⟩, List.mem_of_getElem? (i := 70) (by decide +kernel), List.mem_of_getElem? (i := 312) (by decide +kernel), List.mem_of_getElem? (i := 313) (by decide +kernel)⟩
theorem lw_p8 : lw_okq (⟨"java/util/ArrayList", "fastRemove", "([Ljava/lang/Object;I)V"⟩, 3) := ⟨⟨by decide +kernel, by decide +kernel⟩, List.mem_of_getElem? (i := 70) (by decide +kernel), List.mem_of_getElem? (i := 353) (by decide +kernel), List.mem_of_getElem? (i := 354) (by decide +kernel)⟩
theorem lw_p9 : lw_okq (⟨"HashLinkedWeb$Known", "isFreed", "(LHashLinkedWeb$Member;LHashLinkedWeb$Member;)Z"⟩, 1) := ⟨⟨by decide +kernel, by decide +kernel⟩, List.mem_of_getElem? (i := 28) (by decide +kernel), List.mem_of_getElem? (i := 415) (by decide +kernel), List.mem_of_getElem? (i := 416) (by decide +kernel)⟩
theorem lw_p10 : lw_okq (⟨"HashLinkedWeb$Replica", "hold", "(LHashLinkedWeb$Member;)V"⟩, 5) := ⟨⟨by decide +kernel, by decide +kernel⟩, List.mem_of_getElem? (i := 62) (by decide +kernel), List.mem_of_getElem? (i := 427) (by decide +kernel), List.mem_of_getElem? (i := 428) (by decide +kernel)⟩
theorem lw_p11 : lw_okq (⟨"HashLinkedWeb$Replica", "placeInOrder", "(LHashLinkedWeb$Member;)I"⟩, 5) := ⟨⟨by decide +kernel, by decide +kernel⟩, List.mem_of_getElem? (i := 62) (by decide +kernel), List.mem_of_getElem? (i := 431) (by decide +kernel), List.mem_of_getElem? (i := 432) (by decide +kernel)⟩
theorem lw_p12 : lw_okq (⟨"HashLinkedWeb$Replica", "placeInHeads", "(LHashLinkedWeb$Member;)I"⟩, 5) := ⟨⟨by decide +kernel, by decide +kernel⟩, List.mem_of_getElem? (i := 62) (by decide +kernel), List.mem_of_getElem? (i := 445) (by decide +kernel), List.mem_of_getElem? (i := 446) (by decide +kernel)⟩
theorem lw_p13 : lw_okq (⟨"HashLinkedWeb$Replica", "firstReady", "()I"⟩, 5) := ⟨⟨by decide +kernel, by decide +kernel⟩, List.mem_of_getElem? (i := 62) (by decide +kernel), List.mem_of_getElem? (i := 449) (by decide +kernel), List.mem_of_getElem? (i := 450) (by decide +kernel)⟩
theorem lw_p14 : lw_okq (⟨"HashLinkedWeb", "memberAt", "(II)LHashLinkedWeb$Member;"⟩, 4) := ⟨⟨by decide +kernel, by decide +kernel⟩, List.mem_of_getElem? (i := 20) (by decide +kernel), List.mem_of_getElem? (i := 545) (by decide +kernel), List.mem_of_getElem? (i := 546) (by decide +kernel)⟩
theorem lw_p15 : lw_okq (⟨"HashLinkedWebModel", "sortHeads", "(I)V"⟩, 22) := ⟨⟨by decide +kernel, by decide +kernel⟩, List.mem_of_getElem? (i := 578) (by decide +kernel), List.mem_of_getElem? (i := 659) (by decide +kernel), List.mem_of_getElem? (i := 660) (by decide +kernel)⟩
def lw_privs_1 : List (MethodName × Nat) := [(⟨"HashLinkedWeb", "replicaAt", "(I)LHashLinkedWeb$Replica;"⟩, 4), (⟨"HashLinkedWeb$Replica", "receive", "(LHashLinkedWeb$Operation;)I"⟩, 5), (⟨"HashLinkedWeb$Operation", "linksGrow", "()Z"⟩, 6), (⟨"HashLinkedWeb$Replica", "holdsLinks", "(LHashLinkedWeb$Operation;)Z"⟩, 5), (⟨"HashLinkedWeb$Replica", "letWait", "(LHashLinkedWeb$Operation;)V"⟩, 5), (⟨"java/util/ArrayList", "add", "(Ljava/lang/Object;[Ljava/lang/Object;I)V"⟩, 3), (⟨"java/util/ArrayList", "grow", "()[Ljava/lang/Object;"⟩, 3), (⟨"java/util/ArrayList", "grow", "(I)[Ljava/lang/Object;"⟩, 3), (⟨"java/util/ArrayList", "fastRemove", "([Ljava/lang/Object;I)V"⟩, 3), (⟨"HashLinkedWeb$Known", "isFreed", "(LHashLinkedWeb$Member;LHashLinkedWeb$Member;)Z"⟩, 1), (⟨"HashLinkedWeb$Replica", "hold", "(LHashLinkedWeb$Member;)V"⟩, 5), (⟨"HashLinkedWeb$Replica", "placeInOrder", "(LHashLinkedWeb$Member;)I"⟩, 5), (⟨"HashLinkedWeb$Replica", "placeInHeads", "(LHashLinkedWeb$Member;)I"⟩, 5), (⟨"HashLinkedWeb$Replica", "firstReady", "()I"⟩, 5), (⟨"HashLinkedWeb", "memberAt", "(II)LHashLinkedWeb$Member;"⟩, 4), (⟨"HashLinkedWebModel", "sortHeads", "(I)V"⟩, 22)]
theorem lw_r1 : ∀ q ∈ lw_privs_1, lw_okq q := List.forall_mem_cons.mpr ⟨lw_p0, List.forall_mem_cons.mpr ⟨lw_p1, List.forall_mem_cons.mpr ⟨lw_p2, List.forall_mem_cons.mpr ⟨lw_p3, List.forall_mem_cons.mpr ⟨lw_p4, List.forall_mem_cons.mpr ⟨lw_p5, List.forall_mem_cons.mpr ⟨lw_p6, List.forall_mem_cons.mpr ⟨lw_p7, List.forall_mem_cons.mpr ⟨lw_p8, List.forall_mem_cons.mpr ⟨lw_p9, List.forall_mem_cons.mpr ⟨lw_p10, List.forall_mem_cons.mpr ⟨lw_p11, List.forall_mem_cons.mpr ⟨lw_p12, List.forall_mem_cons.mpr ⟨lw_p13, List.forall_mem_cons.mpr ⟨lw_p14, List.forall_mem_cons.mpr ⟨lw_p15, fun _ h => absurd h List.not_mem_nil⟩⟩⟩⟩⟩⟩⟩⟩⟩⟩⟩⟩⟩⟩⟩⟩
theorem lw_p16 : lw_okq (⟨"HashLinkedWebModel", "headSet", "(I)J"⟩, 22) := ⟨⟨by decide +kernel, by decide +kernel⟩, List.mem_of_getElem? (i := 578) (by decide +kernel), List.mem_of_getElem? (i := 663) (by decide +kernel), List.mem_of_getElem? (i := 664) (by decide +kernel)⟩
theorem lw_p17 : lw_okq (⟨"HashLinkedWebModel", "sort", "(JZ)V"⟩, 22) := ⟨⟨by decide +kernel, by decide +kernel⟩, List.mem_of_getElem? (i := 578) (by decide +kernel), List.mem_of_getElem? (i := 671) (by decide +kernel), List.mem_of_getElem? (i := 672) (by decide +kernel)⟩
theorem lw_p18 : lw_okq (⟨"HashLinkedWebModel", "before", "(IIZ)Z"⟩, 22) := ⟨⟨by decide +kernel, by decide +kernel⟩, List.mem_of_getElem? (i := 578) (by decide +kernel), List.mem_of_getElem? (i := 675) (by decide +kernel), List.mem_of_getElem? (i := 676) (by decide +kernel)⟩
theorem lw_p19 : lw_okq (⟨"HashLinkedWebModel", "come", "(I)I"⟩, 22) := ⟨⟨by decide +kernel, by decide +kernel⟩, List.mem_of_getElem? (i := 578) (by decide +kernel), List.mem_of_getElem? (i := 687) (by decide +kernel), List.mem_of_getElem? (i := 688) (by decide +kernel)⟩
theorem lw_p20 : lw_okq (⟨"HashLinkedWebModel", "arrive", "(I)I"⟩, 22) := ⟨⟨by decide +kernel, by decide +kernel⟩, List.mem_of_getElem? (i := 578) (by decide +kernel), List.mem_of_getElem? (i := 691) (by decide +kernel), List.mem_of_getElem? (i := 692) (by decide +kernel)⟩
theorem lw_p21 : lw_okq (⟨"HashLinkedWebModel", "find", "(J)I"⟩, 22) := ⟨⟨by decide +kernel, by decide +kernel⟩, List.mem_of_getElem? (i := 578) (by decide +kernel), List.mem_of_getElem? (i := 695) (by decide +kernel), List.mem_of_getElem? (i := 696) (by decide +kernel)⟩
theorem lw_p22 : lw_okq (⟨"HashLinkedWebModel", "become", "(I)V"⟩, 22) := ⟨⟨by decide +kernel, by decide +kernel⟩, List.mem_of_getElem? (i := 578) (by decide +kernel), List.mem_of_getElem? (i := 699) (by decide +kernel), List.mem_of_getElem? (i := 700) (by decide +kernel)⟩
theorem lw_p23 : lw_okq (⟨"HashLinkedWebModel", "inShape", "()Z"⟩, 22) := ⟨⟨by decide +kernel, by decide +kernel⟩, List.mem_of_getElem? (i := 578) (by decide +kernel), List.mem_of_getElem? (i := 703) (by decide +kernel), List.mem_of_getElem? (i := 704) (by decide +kernel)⟩
theorem lw_p24 : lw_okq (⟨"HashLinkedWebModel", "linksHeld", "(I)Z"⟩, 22) := ⟨⟨by decide +kernel, by decide +kernel⟩, List.mem_of_getElem? (i := 578) (by decide +kernel), List.mem_of_getElem? (i := 707) (by decide +kernel), List.mem_of_getElem? (i := 708) (by decide +kernel)⟩
theorem lw_p25 : lw_okq (⟨"HashLinkedWebModel", "waitAt", "(I)V"⟩, 22) := ⟨⟨by decide +kernel, by decide +kernel⟩, List.mem_of_getElem? (i := 578) (by decide +kernel), List.mem_of_getElem? (i := 711) (by decide +kernel), List.mem_of_getElem? (i := 712) (by decide +kernel)⟩
theorem lw_p26 : lw_okq (⟨"HashLinkedWebModel", "leave", "(II)V"⟩, 22) := ⟨⟨by decide +kernel, by decide +kernel⟩, List.mem_of_getElem? (i := 578) (by decide +kernel), List.mem_of_getElem? (i := 715) (by decide +kernel), List.mem_of_getElem? (i := 716) (by decide +kernel)⟩
theorem lw_p27 : lw_okq (⟨"HashLinkedWebModel", "isRight", "()Z"⟩, 22) := ⟨⟨by decide +kernel, by decide +kernel⟩, List.mem_of_getElem? (i := 578) (by decide +kernel), List.mem_of_getElem? (i := 719) (by decide +kernel), List.mem_of_getElem? (i := 720) (by decide +kernel)⟩
theorem lw_p28 : lw_okq (⟨"HashLinkedWebModel", "pastOf", "()J"⟩, 22) := ⟨⟨by decide +kernel, by decide +kernel⟩, List.mem_of_getElem? (i := 578) (by decide +kernel), List.mem_of_getElem? (i := 723) (by decide +kernel), List.mem_of_getElem? (i := 724) (by decide +kernel)⟩
theorem lw_p29 : lw_okq (⟨"HashLinkedWebModel", "enter", "()I"⟩, 22) := ⟨⟨by decide +kernel, by decide +kernel⟩, List.mem_of_getElem? (i := 578) (by decide +kernel), List.mem_of_getElem? (i := 727) (by decide +kernel), List.mem_of_getElem? (i := 728) (by decide +kernel)⟩
theorem lw_p30 : lw_okq (⟨"HashLinkedWebModel", "depthOf", "()I"⟩, 22) := ⟨⟨by decide +kernel, by decide +kernel⟩, List.mem_of_getElem? (i := 578) (by decide +kernel), List.mem_of_getElem? (i := 731) (by decide +kernel), List.mem_of_getElem? (i := 732) (by decide +kernel)⟩
theorem lw_p31 : lw_okq (⟨"HashLinkedWebModel", "load", "(I)V"⟩, 22) := ⟨⟨by decide +kernel, by decide +kernel⟩, List.mem_of_getElem? (i := 578) (by decide +kernel), List.mem_of_getElem? (i := 735) (by decide +kernel), List.mem_of_getElem? (i := 736) (by decide +kernel)⟩
def lw_privs_2 : List (MethodName × Nat) := [(⟨"HashLinkedWebModel", "headSet", "(I)J"⟩, 22), (⟨"HashLinkedWebModel", "sort", "(JZ)V"⟩, 22), (⟨"HashLinkedWebModel", "before", "(IIZ)Z"⟩, 22), (⟨"HashLinkedWebModel", "come", "(I)I"⟩, 22), (⟨"HashLinkedWebModel", "arrive", "(I)I"⟩, 22), (⟨"HashLinkedWebModel", "find", "(J)I"⟩, 22), (⟨"HashLinkedWebModel", "become", "(I)V"⟩, 22), (⟨"HashLinkedWebModel", "inShape", "()Z"⟩, 22), (⟨"HashLinkedWebModel", "linksHeld", "(I)Z"⟩, 22), (⟨"HashLinkedWebModel", "waitAt", "(I)V"⟩, 22), (⟨"HashLinkedWebModel", "leave", "(II)V"⟩, 22), (⟨"HashLinkedWebModel", "isRight", "()Z"⟩, 22), (⟨"HashLinkedWebModel", "pastOf", "()J"⟩, 22), (⟨"HashLinkedWebModel", "enter", "()I"⟩, 22), (⟨"HashLinkedWebModel", "depthOf", "()I"⟩, 22), (⟨"HashLinkedWebModel", "load", "(I)V"⟩, 22)]
theorem lw_r2 : ∀ q ∈ lw_privs_2, lw_okq q := List.forall_mem_cons.mpr ⟨lw_p16, List.forall_mem_cons.mpr ⟨lw_p17, List.forall_mem_cons.mpr ⟨lw_p18, List.forall_mem_cons.mpr ⟨lw_p19, List.forall_mem_cons.mpr ⟨lw_p20, List.forall_mem_cons.mpr ⟨lw_p21, List.forall_mem_cons.mpr ⟨lw_p22, List.forall_mem_cons.mpr ⟨lw_p23, List.forall_mem_cons.mpr ⟨lw_p24, List.forall_mem_cons.mpr ⟨lw_p25, List.forall_mem_cons.mpr ⟨lw_p26, List.forall_mem_cons.mpr ⟨lw_p27, List.forall_mem_cons.mpr ⟨lw_p28, List.forall_mem_cons.mpr ⟨lw_p29, List.forall_mem_cons.mpr ⟨lw_p30, List.forall_mem_cons.mpr ⟨lw_p31, fun _ h => absurd h List.not_mem_nil⟩⟩⟩⟩⟩⟩⟩⟩⟩⟩⟩⟩⟩⟩⟩⟩
theorem lw_p32 : lw_okq (⟨"HashLinkedWebModel", "linkSet", "(J)J"⟩, 22) := ⟨⟨by decide +kernel, by decide +kernel⟩, List.mem_of_getElem? (i := 578) (by decide +kernel), List.mem_of_getElem? (i := 760) (by decide +kernel), List.mem_of_getElem? (i := 761) (by decide +kernel)⟩
theorem lw_p33 : lw_okq (⟨"HashLinkedWebModel", "bring", "(IJ)V"⟩, 22) := ⟨⟨by decide +kernel, by decide +kernel⟩, List.mem_of_getElem? (i := 578) (by decide +kernel), List.mem_of_getElem? (i := 764) (by decide +kernel), List.mem_of_getElem? (i := 765) (by decide +kernel)⟩
theorem lw_p34 : lw_okq (⟨"HashLinkedWebModel", "placeOf", "(II)I"⟩, 22) := ⟨⟨by decide +kernel, by decide +kernel⟩, List.mem_of_getElem? (i := 578) (by decide +kernel), List.mem_of_getElem? (i := 791) (by decide +kernel), List.mem_of_getElem? (i := 792) (by decide +kernel)⟩
def lw_privs_3 : List (MethodName × Nat) := [(⟨"HashLinkedWebModel", "linkSet", "(J)J"⟩, 22), (⟨"HashLinkedWebModel", "bring", "(IJ)V"⟩, 22), (⟨"HashLinkedWebModel", "placeOf", "(II)I"⟩, 22)]
theorem lw_r3 : ∀ q ∈ lw_privs_3, lw_okq q := List.forall_mem_cons.mpr ⟨lw_p32, List.forall_mem_cons.mpr ⟨lw_p33, List.forall_mem_cons.mpr ⟨lw_p34, fun _ h => absurd h List.not_mem_nil⟩⟩⟩
def lw_privs : List (MethodName × Nat) := lw_privs_1 ++ (lw_privs_2 ++ (lw_privs_3))
def lw_tbl : List Cond := k2_sels lw_privs ++ tables_1
theorem lw_privs_ok : ∀ q ∈ lw_privs, lw_okq q := by
  show ∀ q ∈ lw_privs_1 ++ (lw_privs_2 ++ (lw_privs_3)), lw_okq q
  exact List.forall_mem_append.mpr ⟨lw_r1, List.forall_mem_append.mpr ⟨lw_r2, lw_r3⟩⟩
end
section
/-! base rows of mine: one list of words for all methods (lw_tbl), a contract's start, calls, long shifts by name -/
def hj_shl (x : Int64) (y : Int32) : Int64 := x <<< (y.toInt64 &&& 63)
def hj_shr (x : Int64) (y : Int32) : Int64 := x >>> (y.toInt64 &&& 63)
def hj_ushr (x : Int64) (y : Int32) : Int64 := (x.toUInt64 >>> (y.toInt64.toUInt64 &&& Int64.toUInt64 63)).toInt64
/-- the words that a method's start keeps under warming: the list that every contract of mine stands on -/
def lg_tbl : List Cond := lw_tbl.filter (fun w => k2_isCode w || goodWord w)
theorem fx_m {w : Cond} (h : (decide (w ∈ lw_tbl) && (k2_isCode w || goodWord w)) = true) : w ∈ lg_tbl := by
  rw [Bool.and_eq_true, decide_eq_true_eq] at h
  exact List.mem_filter.mpr ⟨h.1, h.2⟩
theorem fx_mA {ws : List Cond} (h : (ws.all (fun w => decide (w ∈ lw_tbl) && (k2_isCode w || goodWord w))) = true) : ∀ w ∈ ws, w ∈ lg_tbl := fun w hw => fx_m (List.all_eq_true.mp h w hw)
theorem fx_c {y : MethodName} {b : ByteArray} {n : Nat} {r : Option FieldType} (i : Nat) (h : lw_tbl[i]? = some (.code y b n r)) : Cond.code y b n r ∈ lg_tbl := List.mem_filter.mpr ⟨List.mem_of_getElem? h, rfl⟩
theorem fx_good {w : Cond} (h : w ∈ lg_tbl) : (w.onTables && w.keeps) = true ∨ ∃ ty, w = .arrayClass ty := by
  have h1 := (List.mem_filter.mp h).2
  rw [Bool.or_eq_true] at h1
  rcases h1 with hc | hg
  · cases w <;> first | (simp [k2_isCode] at hc; done) | exact Or.inl rfl
  · exact good_of_word hg
theorem fx_in {ws : List Cond} (h : ∀ w ∈ ws, w ∈ lg_tbl) : GoodIn lg_tbl ws := fun w hw => ⟨h w hw, fx_good (h w hw)⟩
theorem fx_goodV {own : String} {index : Nat} {C : String} {y : MethodName} {bytes : ByteArray} {n : Nat} {ret : Option FieldType} (h1 : Cond.methodLink own index y ∈ lg_tbl) (h2 : Cond.instanceMethod y ∈ lg_tbl) (h3 : Cond.selects C y y ∈ lg_tbl) (h4 : Cond.initialized C ∈ lg_tbl) (h5 : Cond.code y bytes n ret ∈ lg_tbl) : GoodIn lg_tbl (wsV own index C y (.code y bytes n ret :: lg_tbl)) := by
  refine fx_in (fun w hw => ?_)
  unfold wsV at hw
  rcases List.mem_append.mp hw with hw | hw
  · simp only [List.mem_cons, List.not_mem_nil, or_false] at hw
    rcases hw with rfl | rfl | rfl | rfl <;> assumption
  · rcases List.mem_cons.mp hw with rfl | hw
    · exact h5
    · exact hw
theorem fx_goodS {own : String} {index : Nat} {y : MethodName} {bytes : ByteArray} {n : Nat} {ret : Option FieldType} (h1 : Cond.methodLink own index y ∈ lg_tbl) (h2 : Cond.static y ∈ lg_tbl) (h4 : Cond.initialized own ∈ lg_tbl) (h5 : Cond.code y bytes n ret ∈ lg_tbl) : GoodIn lg_tbl (wsS own index y (.code y bytes n ret :: lg_tbl)) := by
  refine fx_in (fun w hw => ?_)
  unfold wsS at hw
  rcases List.mem_append.mp hw with hw | hw
  · simp only [List.mem_cons, List.not_mem_nil, or_false] at hw
    rcases hw with rfl | rfl | rfl <;> assumption
  · rcases List.mem_cons.mp hw with rfl | hw
    · exact h5
    · exact hw
theorem fx_start {l : Launch} {y : MethodName} {cc : ByteArray} {n : Nat} {ret : Option FieldType} {rm : Room} {av : List Value} {B : State → Prop} {Qc : Array Value → State → Outcome → State → Prop} {mc ms : Nat} {free : Nat → Prop} (hy : plainName y.cls = true) (hlen : (lg_sl av).length ≤ n)
    (body : ∀ (p : Program) (e : Env) (s : State) (m : MethodId) (below : List Frame) (meth : Method) (c : Code) (ls : Array Slot), p.tables.exec = Jvm.exec → c.code = cc → meth.sig.returnType = ret → c.maxLocals = n → s.vm.findClass y.cls = some m.cls → (∀ w ∈ lg_tbl, w.before av.toArray s = true) → meth.locks = false → meth.name = y.name → B s → lv_has ls n (lv_args 0 av) →
      W p l e rm s m av.toArray below meth c s.heap [] 0 0 (MQ below Qc av.toArray s mc ms free) (F0 m 0 ls [])) : Met l y (.code y cc n ret :: lg_tbl) rm (va_Pc av B) Qc mc ms free := by
  refine Met.ofW (cc := cc) (maxL := n) (ret := ret) hy rfl ?_
  intro p e s m args below meth c s₁ B0 hml hv
  obtain ⟨rfl, hB⟩ := hv
  have hts := atoms_spec (ws := Cond.code y cc n ret :: lg_tbl) B0.pre
  rw [lg_entry_eq]
  exact body p e s m below meth c _ B0.exec B0.bytes B0.returns hml (findClass_of_methodNamed B0.named) (fun w h => hts w (List.mem_cons_of_mem _ h)) B0.notSynchronized (name_of_methodNamed B0.named B0.method).1 hB (lv_entry av hlen)
/-- the words of nest mates, casts and arrays of objects: kept too, but each by its own law -/
def fx_isN : Cond → Bool
  | .fieldLinkNest .. => true
  | .methodLinkNest .. => true
  | .castable .. => true
  | .arrayOver (.object _) => true
  | _ => false
def fx_N (U : State) : Prop := ∀ w ∈ lw_tbl, fx_isN w = true → va_Nw w U
theorem fx_N.warm {s U : State} (hW : s.WarmedH U.vm) (h : fx_N s) : fx_N U := by
  intro w hw hn
  have h1 := h w hw hn
  cases w <;> first | (simp [fx_isN] at hn; done) | exact va_Nw.warmF hW h1 | exact va_Nw.warmM hW h1 | exact va_Nw.warmC hW h1 | (rename_i ty; cases ty <;> first | (simp [fx_isN] at hn; done) | exact va_AO.moved hW.alike h1)
theorem fx_N.same {u U : State} (hv : u.vm = U.vm) (h : fx_N u) : fx_N U := by
  intro w hw hn
  have h1 := h w hw hn
  cases w <;> first | (simp [fx_isN] at hn; done) | exact va_Nw.same rfl hv h1 | (rename_i ty; cases ty <;> first | (simp [fx_isN] at hn; done) | exact va_AO.moved (by rw [hv]; exact Vm.Alike.refl _) h1)
theorem fx_N.use {U : State} {args : Array Value} {w : Cond} (h : fx_N U) (hw : (decide (w ∈ lw_tbl) && fx_isN w) = true) : w.before args U = true := by
  rw [Bool.and_eq_true, decide_eq_true_eq] at hw
  have h1 := h w hw.1 hw.2
  have hn := hw.2
  cases w <;> first | (simp [fx_isN] at hn; done) | exact va_Nw.use rfl h1 | (rename_i ty; cases ty <;> first | (simp [fx_isN] at hn; done) | exact va_AO.use h1)
/-- a contract's start over a world predicate, and its end -/
def fxB (Wd : Heap → Prop) (D : va_G) (cl : List vw_C) (tys : List (ClassId × FieldType)) : State → Prop := fun U => Wd U.heap ∧ va_K D cl tys U ∧ fx_N U
def fxC {S : Type} (Wd : S → Heap → Prop) : S → State → Prop := fun u t => Wd u t.heap
theorem fx_blind {av : List Value} {Wd : Heap → Prop} {D : va_G} {cl : List vw_C} {tys : List (ClassId × FieldType)} : FrameBlind (va_Pc av (fxB Wd D cl tys)) := fun a U g mk q => ⟨q.1, q.2.1, va_K.moved (u := U) (U := U.calling g mk a) (Vm.Alike.refl U.vm) q.2.2.1, fx_N.same (u := U) (U := U.calling g mk a) rfl q.2.2.2⟩
theorem fx_preV {s : State} {H : Heap} {C : String} {b : Nat} {av : List Value} {Wd : Heap → Prop} {D : va_G} {cl : List vw_C} {tys : List (ClassId × FieldType)} (hr : ∃ cellB : Cell, H[b]? = some cellB ∧ cellB.vm.isStatics = false ∧ s.vm.findClass C = some cellB.cls) (hP : Wd H) (hK : va_K D cl tys s) (hN : fx_N s) : PreV s H C b (va_Pc (.ref b :: av) (fxB Wd D cl tys)) av := ⟨fx_blind, hr, fun U hU hW => ⟨rfl, by rw [hU]; exact hP, va_K.moved hW.alike hK, hN.warm hW⟩⟩
theorem fx_preS {s : State} {H : Heap} {av : List Value} {Wd : Heap → Prop} {D : va_G} {cl : List vw_C} {tys : List (ClassId × FieldType)} (hP : Wd H) (hK : va_K D cl tys s) (hN : fx_N s) : PreS s H (va_Pc av (fxB Wd D cl tys)) av := ⟨fx_blind, fun U hU hW => ⟨rfl, by rw [hU]; exact hP, va_K.moved hW.alike hK, hN.warm hW⟩⟩
section FXC
variable {R : Room} {s : State} {args : Array Value} {own C : String} {index : Nat} {y : MethodName} {bytes : ByteArray} {maxL mc ms : Nat} {ret : Option FieldType} {rm : Room}
theorem fx_cwV (n : Nat) (ht : ∀ w ∈ lg_tbl, w.before args s = true) (hG : GoodIn lg_tbl (wsV own index C y (.code y bytes maxL ret :: lg_tbl))) (hd : y.cls = C ∧ y.cls ≠ "java/lang/invoke/MethodHandle" ∧ y.cls ≠ "java/lang/invoke/VarHandle" ∧ (parseMethodDescriptor y.desc).map (fun d => d.parameters.length) = some n) (hR : rm.frames + 1 ≤ R.frames ∧ 8 + (maxL + 11) + rm.locals ≤ R.locals) : CallW R s args own C index y bytes maxL ret (.code y bytes maxL ret :: lg_tbl) rm rm.cells rm.slots n := cwV n ht hG rfl rfl rfl hd hR
theorem fx_cwS (n : Nat) (ht : ∀ w ∈ lg_tbl, w.before args s = true) (hG : GoodIn lg_tbl (wsS own index y (.code y bytes maxL ret :: lg_tbl))) (hd : y.cls = own ∧ y.cls ≠ "java/lang/invoke/MethodHandle" ∧ y.cls ≠ "java/lang/invoke/VarHandle" ∧ (parseMethodDescriptor y.desc).map (fun d => d.parameters.length) = some n) (hR : rm.frames + 1 ≤ R.frames ∧ 8 + (maxL + 11) + rm.locals ≤ R.locals) : CallB R s args own index y bytes maxL ret (.code y bytes maxL ret :: lg_tbl) rm rm.cells rm.slots n ∧ (Cond.static y).before args s = true := cwS n ht hG rfl rfl rfl hd hR
end FXC
end
section
/-! names of mine (printed by a program): classes, their fields, the list of classes -/
def RXM : String := "HashLinkedWebModel"
def RXW : String := "HashLinkedWeb"
def RXKn : String := "HashLinkedWeb$Known"
def RXRo : String := "HashLinkedWeb$Row"
def RXRe : String := "HashLinkedWeb$Replica"
def RXOp : String := "HashLinkedWeb$Operation"
def RXDr : String := "HashLinkedWeb$Draft"
def RXMe : String := "HashLinkedWeb$Member"
def RXAs : String := "HashLinkedWeb$Asking"
def RXAL : String := "java/util/ArrayList"
def RXBL : String := "java/util/AbstractList"
def RXBC : String := "java/util/AbstractCollection"
def RXAr : String := "java/util/Arrays"
def RXOb : String := "java/util/Objects"
def RXPr : String := "jdk/internal/util/Preconditions"
def RXAS : String := "jdk/internal/util/ArraysSupport"
def RXL : String := "HashLinkedWebLaw"
def TXM : u_T := fun k => match k with
  | 0 => ("HashLinkedWebModel", "count", "I", false)
  | 1 => ("HashLinkedWebModel", "hash", "[J", true)
  | 2 => ("HashLinkedWebModel", "author", "[I", true)
  | 3 => ("HashLinkedWebModel", "kind", "[I", true)
  | 4 => ("HashLinkedWebModel", "key", "[I", true)
  | 5 => ("HashLinkedWebModel", "value", "[I", true)
  | 6 => ("HashLinkedWebModel", "links", "[I", true)
  | 7 => ("HashLinkedWebModel", "link", "[J", true)
  | 8 => ("HashLinkedWebModel", "past", "[J", true)
  | 9 => ("HashLinkedWebModel", "depth", "[I", true)
  | 10 => ("HashLinkedWebModel", "holds", "[J", true)
  | 11 => ("HashLinkedWebModel", "waits", "[I", true)
  | 12 => ("HashLinkedWebModel", "waitHash", "[J", true)
  | 13 => ("HashLinkedWebModel", "waitNumbers", "[I", true)
  | 14 => ("HashLinkedWebModel", "waitLink", "[J", true)
  | 15 => ("HashLinkedWebModel", "draftNumbers", "[I", true)
  | 16 => ("HashLinkedWebModel", "draftLink", "[J", true)
  | 17 => ("HashLinkedWebModel", "numbers", "[I", true)
  | 18 => ("HashLinkedWebModel", "comingLink", "[J", true)
  | 19 => ("HashLinkedWebModel", "coming", "J", false)
  | 20 => ("HashLinkedWebModel", "sorted", "I", false)
  | _ => ("HashLinkedWebModel", "order", "[I", true)
def tyXM : Nat → FieldType := fun k => match k with
  | 0 => .int
  | 1 => .array .long
  | 2 => .array .int
  | 3 => .array .int
  | 4 => .array .int
  | 5 => .array .int
  | 6 => .array .int
  | 7 => .array .long
  | 8 => .array .long
  | 9 => .array .int
  | 10 => .array .long
  | 11 => .array .int
  | 12 => .array .long
  | 13 => .array .int
  | 14 => .array .long
  | 15 => .array .int
  | 16 => .array .long
  | 17 => .array .int
  | 18 => .array .long
  | 19 => .long
  | 20 => .int
  | _ => .array .int
def TXW : u_T := fun k => match k with
  | 0 => ("HashLinkedWeb", "known", "LHashLinkedWeb$Known;", true)
  | 1 => ("HashLinkedWeb", "replicas", "[LHashLinkedWeb$Replica;", true)
  | 2 => ("HashLinkedWeb", "draft", "LHashLinkedWeb$Draft;", true)
  | _ => ("HashLinkedWeb", "written", "LHashLinkedWeb$Draft;", true)
def tyXW : Nat → FieldType := fun k => match k with
  | 0 => .object "HashLinkedWeb$Known"
  | 1 => .array (.object "HashLinkedWeb$Replica")
  | 2 => .object "HashLinkedWeb$Draft"
  | _ => .object "HashLinkedWeb$Draft"
def TXKn : u_T := fun k => match k with
  | _ => ("HashLinkedWeb$Known", "members", "LHashLinkedWeb$Row;", true)
def tyXKn : Nat → FieldType := fun k => match k with
  | _ => .object "HashLinkedWeb$Row"
def TXRo : u_T := fun k => match k with
  | 0 => ("HashLinkedWeb$Row", "places", "[LHashLinkedWeb$Member;", true)
  | _ => ("HashLinkedWeb$Row", "size", "I", false)
def tyXRo : Nat → FieldType := fun k => match k with
  | 0 => .array (.object "HashLinkedWeb$Member")
  | _ => .int
def TXRe : u_T := fun k => match k with
  | 0 => ("HashLinkedWeb$Replica", "known", "LHashLinkedWeb$Known;", true)
  | 1 => ("HashLinkedWeb$Replica", "orderRow", "LHashLinkedWeb$Row;", true)
  | 2 => ("HashLinkedWeb$Replica", "headRow", "LHashLinkedWeb$Row;", true)
  | 3 => ("HashLinkedWeb$Replica", "waitingRow", "Ljava/util/ArrayList;", true)
  | _ => ("HashLinkedWeb$Replica", "heldSet", "J", false)
def tyXRe : Nat → FieldType := fun k => match k with
  | 0 => .object "HashLinkedWeb$Known"
  | 1 => .object "HashLinkedWeb$Row"
  | 2 => .object "HashLinkedWeb$Row"
  | 3 => .object "java/util/ArrayList"
  | _ => .long
def TXOp : u_T := fun k => match k with
  | 0 => ("HashLinkedWeb$Operation", "author", "I", true)
  | 1 => ("HashLinkedWeb$Operation", "kind", "I", true)
  | 2 => ("HashLinkedWeb$Operation", "key", "I", true)
  | 3 => ("HashLinkedWeb$Operation", "value", "I", true)
  | 4 => ("HashLinkedWeb$Operation", "links", "[J", true)
  | _ => ("HashLinkedWeb$Operation", "hash", "J", true)
def tyXOp : Nat → FieldType := fun k => match k with
  | 0 => .int
  | 1 => .int
  | 2 => .int
  | 3 => .int
  | 4 => .array .long
  | _ => .long
def TXDr : u_T := fun k => match k with
  | 0 => ("HashLinkedWeb$Draft", "author", "I", false)
  | 1 => ("HashLinkedWeb$Draft", "kind", "I", false)
  | 2 => ("HashLinkedWeb$Draft", "key", "I", false)
  | 3 => ("HashLinkedWeb$Draft", "value", "I", false)
  | 4 => ("HashLinkedWeb$Draft", "linkCount", "I", false)
  | _ => ("HashLinkedWeb$Draft", "links", "[J", true)
def tyXDr : Nat → FieldType := fun k => match k with
  | 0 => .int
  | 1 => .int
  | 2 => .int
  | 3 => .int
  | 4 => .int
  | _ => .array .long
def TXMe : u_T := fun k => match k with
  | 0 => ("HashLinkedWeb$Member", "operation", "LHashLinkedWeb$Operation;", true)
  | 1 => ("HashLinkedWeb$Member", "number", "I", true)
  | 2 => ("HashLinkedWeb$Member", "depth", "I", true)
  | 3 => ("HashLinkedWeb$Member", "linkSet", "J", true)
  | _ => ("HashLinkedWeb$Member", "past", "J", true)
def tyXMe : Nat → FieldType := fun k => match k with
  | 0 => .object "HashLinkedWeb$Operation"
  | 1 => .int
  | 2 => .int
  | 3 => .long
  | _ => .long
def TXAs : u_T := fun k => match k with
  | 0 => ("HashLinkedWeb$Asking", "known", "LHashLinkedWeb$Known;", true)
  | 1 => ("HashLinkedWeb$Asking", "asker", "LHashLinkedWeb$Replica;", true)
  | 2 => ("HashLinkedWeb$Asking", "teller", "LHashLinkedWeb$Replica;", true)
  | 3 => ("HashLinkedWeb$Asking", "lacking", "J", false)
  | _ => ("HashLinkedWeb$Asking", "got", "J", false)
def tyXAs : Nat → FieldType := fun k => match k with
  | 0 => .object "HashLinkedWeb$Known"
  | 1 => .object "HashLinkedWeb$Replica"
  | 2 => .object "HashLinkedWeb$Replica"
  | 3 => .long
  | _ => .long
def TXAL : u_T := fun k => match k with
  | 0 => ("java/util/AbstractList", "modCount", "I", false)
  | 1 => ("java/util/ArrayList", "elementData", "[Ljava/lang/Object;", false)
  | _ => ("java/util/ArrayList", "size", "I", false)
def tyXAL : Nat → FieldType := fun k => match k with
  | 0 => .int
  | 1 => .array (.object "java/lang/Object")
  | _ => .int
abbrev vwCl : List vw_C := [(RXM, TXM, 22), (RXW, TXW, 4), (RXKn, TXKn, 1), (RXRo, TXRo, 2), (RXRe, TXRe, 5), (RXOp, TXOp, 6), (RXDr, TXDr, 6), (RXMe, TXMe, 5), (RXAs, TXAs, 5), (RXAL, TXAL, 3)]
end
