section
-- ===== PART A: goes FIRST, ahead of the names: the tables' words, and 'selects' of the private methods out of them =====
/-- a private method of a class that the tables say can be made, by its rows of tables_1 -/
def lw_okq (q : MethodName × Nat) : Prop := (q.1.cls ≠ "java/lang/invoke/MethodHandle" ∧ q.1.cls ≠ "java/lang/invoke/VarHandle") ∧ Cond.instantiable q.1.cls q.2 ∈ tables_1 ∧ Cond.privateMethod q.1 ∈ tables_1 ∧ Cond.instanceMethod q.1 ∈ tables_1
theorem lw_p0 : lw_okq (⟨"HashLinkedWeb", "replicaAt", "(I)LHashLinkedWeb$Replica;"⟩, 4) := ⟨⟨by decide +kernel, by decide +kernel⟩, List.mem_of_getElem? (i := 20) (by decide +kernel), List.mem_of_getElem? (i := 160) (by decide +kernel), List.mem_of_getElem? (i := 161) (by decide +kernel)⟩
theorem lw_p1 : lw_okq (⟨"HashLinkedWeb$Replica", "receive", "(LHashLinkedWeb$Operation;)I"⟩, 5) := ⟨⟨by decide +kernel, by decide +kernel⟩, List.mem_of_getElem? (i := 62) (by decide +kernel), List.mem_of_getElem? (i := 250) (by decide +kernel), List.mem_of_getElem? (i := 251) (by decide +kernel)⟩
theorem lw_p2 : lw_okq (⟨"HashLinkedWeb$Operation", "linksGrow", "()Z"⟩, 6) := ⟨⟨by decide +kernel, by decide +kernel⟩, List.mem_of_getElem? (i := 186) (by decide +kernel), List.mem_of_getElem? (i := 269) (by decide +kernel), List.mem_of_getElem? (i := 270) (by decide +kernel)⟩
theorem lw_p3 : lw_okq (⟨"HashLinkedWeb$Replica", "holdsLinks", "(LHashLinkedWeb$Operation;)Z"⟩, 5) := ⟨⟨by decide +kernel, by decide +kernel⟩, List.mem_of_getElem? (i := 62) (by decide +kernel), List.mem_of_getElem? (i := 273) (by decide +kernel), List.mem_of_getElem? (i := 274) (by decide +kernel)⟩
theorem lw_p4 : lw_okq (⟨"HashLinkedWeb$Replica", "letWait", "(LHashLinkedWeb$Operation;)V"⟩, 5) := ⟨⟨by decide +kernel, by decide +kernel⟩, List.mem_of_getElem? (i := 62) (by decide +kernel), List.mem_of_getElem? (i := 277) (by decide +kernel), List.mem_of_getElem? (i := 278) (by decide +kernel)⟩
theorem lw_p5 : lw_okq (⟨"java/util/ArrayList", "add", "(Ljava/lang/Object;[Ljava/lang/Object;I)V"⟩, 3) := ⟨⟨by decide +kernel, by decide +kernel⟩, List.mem_of_getElem? (i := 70) (by decide +kernel), List.mem_of_getElem? (i := 304) (by decide +kernel), List.mem_of_getElem? (i := 305) (by decide +kernel)⟩
theorem lw_p6 : lw_okq (⟨"java/util/ArrayList", "grow", "()[Ljava/lang/Object;"⟩, 3) := ⟨⟨by decide +kernel, by decide +kernel⟩, List.mem_of_getElem? (i := 70) (by decide +kernel), List.mem_of_getElem? (i := 308) (by decide +kernel), List.mem_of_getElem? (i := 309) (by decide +kernel)⟩
theorem lw_p7 : lw_okq (⟨"java/util/ArrayList", "grow", "(I)[Ljava/lang/Object;"⟩, 3) := ⟨⟨by decide +kernel, by decide +kernel⟩, List.mem_of_getElem? (i := 70) (by decide +kernel), List.mem_of_getElem? (i := 312) (by decide +kernel), List.mem_of_getElem? (i := 313) (by decide +kernel)⟩
theorem lw_p8 : lw_okq (⟨"java/util/ArrayList", "fastRemove", "([Ljava/lang/Object;I)V"⟩, 3) := ⟨⟨by decide +kernel, by decide +kernel⟩, List.mem_of_getElem? (i := 70) (by decide +kernel), List.mem_of_getElem? (i := 353) (by decide +kernel), List.mem_of_getElem? (i := 354) (by decide +kernel)⟩
theorem lw_p9 : lw_okq (⟨"HashLinkedWeb$Known", "isFreed", "(LHashLinkedWeb$Member;LHashLinkedWeb$Member;)Z"⟩, 1) := ⟨⟨by decide +kernel, by decide +kernel⟩, List.mem_of_getElem? (i := 28) (by decide +kernel), List.mem_of_getElem? (i := 415) (by decide +kernel), List.mem_of_getElem? (i := 416) (by decide +kernel)⟩
theorem lw_p10 : lw_okq (⟨"HashLinkedWeb$Replica", "hold", "(LHashLinkedWeb$Member;)V"⟩, 5) := ⟨⟨by decide +kernel, by decide +kernel⟩, List.mem_of_getElem? (i := 62) (by decide +kernel), List.mem_of_getElem? (i := 427) (by decide +kernel), List.mem_of_getElem? (i := 428) (by decide +kernel)⟩
theorem lw_p11 : lw_okq (⟨"HashLinkedWeb$Replica", "placeInOrder", "(LHashLinkedWeb$Member;)I"⟩, 5) := ⟨⟨by decide +kernel, by decide +kernel⟩, List.mem_of_getElem? (i := 62) (by decide +kernel), List.mem_of_getElem? (i := 431) (by decide +kernel), List.mem_of_getElem? (i := 432) (by decide +kernel)⟩
theorem lw_p12 : lw_okq (⟨"HashLinkedWeb$Replica", "placeInHeads", "(LHashLinkedWeb$Member;)I"⟩, 5) := ⟨⟨by decide +kernel, by decide +kernel⟩, List.mem_of_getElem? (i := 62) (by decide +kernel), List.mem_of_getElem? (i := 445) (by decide +kernel), List.mem_of_getElem? (i := 446) (by decide +kernel)⟩
theorem lw_p13 : lw_okq (⟨"HashLinkedWeb$Replica", "firstReady", "()I"⟩, 5) := ⟨⟨by decide +kernel, by decide +kernel⟩, List.mem_of_getElem? (i := 62) (by decide +kernel), List.mem_of_getElem? (i := 449) (by decide +kernel), List.mem_of_getElem? (i := 450) (by decide +kernel)⟩
theorem lw_p14 : lw_okq (⟨"HashLinkedWeb", "memberAt", "(II)LHashLinkedWeb$Member;"⟩, 4) := ⟨⟨by decide +kernel, by decide +kernel⟩, List.mem_of_getElem? (i := 20) (by decide +kernel), List.mem_of_getElem? (i := 545) (by decide +kernel), List.mem_of_getElem? (i := 546) (by decide +kernel)⟩
theorem lw_p15 : lw_okq (⟨"HashLinkedWebModel", "sortHeads", "(I)V"⟩, 22) := ⟨⟨by decide +kernel, by decide +kernel⟩, List.mem_of_getElem? (i := 578) (by decide +kernel), List.mem_of_getElem? (i := 659) (by decide +kernel), List.mem_of_getElem? (i := 660) (by decide +kernel)⟩
def lw_privs_1 : List (MethodName × Nat) := [(⟨"HashLinkedWeb", "replicaAt", "(I)LHashLinkedWeb$Replica;"⟩, 4), (⟨"HashLinkedWeb$Replica", "receive", "(LHashLinkedWeb$Operation;)I"⟩, 5), (⟨"HashLinkedWeb$Operation", "linksGrow", "()Z"⟩, 6), (⟨"HashLinkedWeb$Replica", "holdsLinks", "(LHashLinkedWeb$Operation;)Z"⟩, 5), (⟨"HashLinkedWeb$Replica", "letWait", "(LHashLinkedWeb$Operation;)V"⟩, 5), (⟨"java/util/ArrayList", "add", "(Ljava/lang/Object;[Ljava/lang/Object;I)V"⟩, 3), (⟨"java/util/ArrayList", "grow", "()[Ljava/lang/Object;"⟩, 3), (⟨"java/util/ArrayList", "grow", "(I)[Ljava/lang/Object;"⟩, 3), (⟨"java/util/ArrayList", "fastRemove", "([Ljava/lang/Object;I)V"⟩, 3), (⟨"HashLinkedWeb$Known", "isFreed", "(LHashLinkedWeb$Member;LHashLinkedWeb$Member;)Z"⟩, 1), (⟨"HashLinkedWeb$Replica", "hold", "(LHashLinkedWeb$Member;)V"⟩, 5), (⟨"HashLinkedWeb$Replica", "placeInOrder", "(LHashLinkedWeb$Member;)I"⟩, 5), (⟨"HashLinkedWeb$Replica", "placeInHeads", "(LHashLinkedWeb$Member;)I"⟩, 5), (⟨"HashLinkedWeb$Replica", "firstReady", "()I"⟩, 5), (⟨"HashLinkedWeb", "memberAt", "(II)LHashLinkedWeb$Member;"⟩, 4), (⟨"HashLinkedWebModel", "sortHeads", "(I)V"⟩, 22)]
theorem lw_r1 : ∀ q ∈ lw_privs_1, lw_okq q := List.forall_mem_cons.mpr ⟨lw_p0, List.forall_mem_cons.mpr ⟨lw_p1, List.forall_mem_cons.mpr ⟨lw_p2, List.forall_mem_cons.mpr ⟨lw_p3, List.forall_mem_cons.mpr ⟨lw_p4, List.forall_mem_cons.mpr ⟨lw_p5, List.forall_mem_cons.mpr ⟨lw_p6, List.forall_mem_cons.mpr ⟨lw_p7, List.forall_mem_cons.mpr ⟨lw_p8, List.forall_mem_cons.mpr ⟨lw_p9, List.forall_mem_cons.mpr ⟨lw_p10, List.forall_mem_cons.mpr ⟨lw_p11, List.forall_mem_cons.mpr ⟨lw_p12, List.forall_mem_cons.mpr ⟨lw_p13, List.forall_mem_cons.mpr ⟨lw_p14, List.forall_mem_cons.mpr ⟨lw_p15, fun _ h => absurd h List.not_mem_nil⟩⟩⟩⟩⟩⟩⟩⟩⟩⟩⟩⟩⟩⟩⟩⟩
theorem lw_p16 : lw_okq (⟨"HashLinkedWebModel", "headSet", "(I)J"⟩, 22) := ⟨⟨by decide +kernel, by decide +kernel⟩, List.mem_of_getElem? (i := 578) (by decide +kernel), List.mem_of_getElem? (i := 663) (by decide +kernel), List.mem_of_getElem? (i := 664) (by decide +kernel)⟩
theorem lw_p17 : lw_okq (⟨"HashLinkedWebModel", "sort", "(JZ)V"⟩, 22) := ⟨⟨by decide +kernel, by decide +kernel⟩, List.mem_of_getElem? (i := 578) (by decide +kernel), List.mem_of_getElem? (i := 671) (by decide +kernel), List.mem_of_getElem? (i := 672) (by decide +kernel)⟩
theorem lw_p18 : lw_okq (⟨"HashLinkedWebModel", "before", "(IIZ)Z"⟩, 22) := ⟨⟨by decide +kernel, by decide +kernel⟩, List.mem_of_getElem? (i := 578) (by decide +kernel), List.mem_of_getElem? (i := 675) (by decide +kernel), List.mem_of_getElem? (i := 676) (by decide +kernel)⟩
theorem lw_p19 : lw_okq (⟨"HashLinkedWebModel", "come", "(I)I"⟩, 22) := ⟨⟨by decide +kernel, by decide +kernel⟩, List.mem_of_getElem? (i := 578) (by decide +kernel), List.mem_of_getElem? (i := 687) (by decide +kernel), List.mem_of_getElem? (i := 688) (by decide +kernel)⟩
theorem lw_p20 : lw_okq (⟨"HashLinkedWebModel", "arrive", "(I)I"⟩, 22) := ⟨⟨by decide +kernel, by decide +kernel⟩, List.mem_of_getElem? (i := 578) (by decide +kernel), List.mem_of_getElem? (i := 691) (by decide +kernel), List.mem_of_getElem? (i := 692) (by decide +kernel)⟩
theorem lw_p21 : lw_okq (⟨"HashLinkedWebModel", "find", "(J)I"⟩, 22) := ⟨⟨by decide +kernel, by decide +kernel⟩, List.mem_of_getElem? (i := 578) (by decide +kernel), List.mem_of_getElem? (i := 695) (by decide +kernel), List.mem_of_getElem? (i := 696) (by decide +kernel)⟩
theorem lw_p22 : lw_okq (⟨"HashLinkedWebModel", "become", "(I)V"⟩, 22) := ⟨⟨by decide +kernel, by decide +kernel⟩, List.mem_of_getElem? (i := 578) (by decide +kernel), List.mem_of_getElem? (i := 699) (by decide +kernel), List.mem_of_getElem? (i := 700) (by decide +kernel)⟩
theorem lw_p23 : lw_okq (⟨"HashLinkedWebModel", "inShape", "()Z"⟩, 22) := ⟨⟨by decide +kernel, by decide +kernel⟩, List.mem_of_getElem? (i := 578) (by decide +kernel), List.mem_of_getElem? (i := 703) (by decide +kernel), List.mem_of_getElem? (i := 704) (by decide +kernel)⟩
theorem lw_p24 : lw_okq (⟨"HashLinkedWebModel", "linksHeld", "(I)Z"⟩, 22) := ⟨⟨by decide +kernel, by decide +kernel⟩, List.mem_of_getElem? (i := 578) (by decide +kernel), List.mem_of_getElem? (i := 707) (by decide +kernel), List.mem_of_getElem? (i := 708) (by decide +kernel)⟩
theorem lw_p25 : lw_okq (⟨"HashLinkedWebModel", "waitAt", "(I)V"⟩, 22) := ⟨⟨by decide +kernel, by decide +kernel⟩, List.mem_of_getElem? (i := 578) (by decide +kernel), List.mem_of_getElem? (i := 711) (by decide +kernel), List.mem_of_getElem? (i := 712) (by decide +kernel)⟩
theorem lw_p26 : lw_okq (⟨"HashLinkedWebModel", "leave", "(II)V"⟩, 22) := ⟨⟨by decide +kernel, by decide +kernel⟩, List.mem_of_getElem? (i := 578) (by decide +kernel), List.mem_of_getElem? (i := 715) (by decide +kernel), List.mem_of_getElem? (i := 716) (by decide +kernel)⟩
theorem lw_p27 : lw_okq (⟨"HashLinkedWebModel", "isRight", "()Z"⟩, 22) := ⟨⟨by decide +kernel, by decide +kernel⟩, List.mem_of_getElem? (i := 578) (by decide +kernel), List.mem_of_getElem? (i := 719) (by decide +kernel), List.mem_of_getElem? (i := 720) (by decide +kernel)⟩
theorem lw_p28 : lw_okq (⟨"HashLinkedWebModel", "pastOf", "()J"⟩, 22) := ⟨⟨by decide +kernel, by decide +kernel⟩, List.mem_of_getElem? (i := 578) (by decide +kernel), List.mem_of_getElem? (i := 723) (by decide +kernel), List.mem_of_getElem? (i := 724) (by decide +kernel)⟩
theorem lw_p29 : lw_okq (⟨"HashLinkedWebModel", "enter", "()I"⟩, 22) := ⟨⟨by decide +kernel, by decide +kernel⟩, List.mem_of_getElem? (i := 578) (by decide +kernel), List.mem_of_getElem? (i := 727) (by decide +kernel), List.mem_of_getElem? (i := 728) (by decide +kernel)⟩
theorem lw_p30 : lw_okq (⟨"HashLinkedWebModel", "depthOf", "()I"⟩, 22) := ⟨⟨by decide +kernel, by decide +kernel⟩, List.mem_of_getElem? (i := 578) (by decide +kernel), List.mem_of_getElem? (i := 731) (by decide +kernel), List.mem_of_getElem? (i := 732) (by decide +kernel)⟩
theorem lw_p31 : lw_okq (⟨"HashLinkedWebModel", "load", "(I)V"⟩, 22) := ⟨⟨by decide +kernel, by decide +kernel⟩, List.mem_of_getElem? (i := 578) (by decide +kernel), List.mem_of_getElem? (i := 735) (by decide +kernel), List.mem_of_getElem? (i := 736) (by decide +kernel)⟩
def lw_privs_2 : List (MethodName × Nat) := [(⟨"HashLinkedWebModel", "headSet", "(I)J"⟩, 22), (⟨"HashLinkedWebModel", "sort", "(JZ)V"⟩, 22), (⟨"HashLinkedWebModel", "before", "(IIZ)Z"⟩, 22), (⟨"HashLinkedWebModel", "come", "(I)I"⟩, 22), (⟨"HashLinkedWebModel", "arrive", "(I)I"⟩, 22), (⟨"HashLinkedWebModel", "find", "(J)I"⟩, 22), (⟨"HashLinkedWebModel", "become", "(I)V"⟩, 22), (⟨"HashLinkedWebModel", "inShape", "()Z"⟩, 22), (⟨"HashLinkedWebModel", "linksHeld", "(I)Z"⟩, 22), (⟨"HashLinkedWebModel", "waitAt", "(I)V"⟩, 22), (⟨"HashLinkedWebModel", "leave", "(II)V"⟩, 22), (⟨"HashLinkedWebModel", "isRight", "()Z"⟩, 22), (⟨"HashLinkedWebModel", "pastOf", "()J"⟩, 22), (⟨"HashLinkedWebModel", "enter", "()I"⟩, 22), (⟨"HashLinkedWebModel", "depthOf", "()I"⟩, 22), (⟨"HashLinkedWebModel", "load", "(I)V"⟩, 22)]
theorem lw_r2 : ∀ q ∈ lw_privs_2, lw_okq q := List.forall_mem_cons.mpr ⟨lw_p16, List.forall_mem_cons.mpr ⟨lw_p17, List.forall_mem_cons.mpr ⟨lw_p18, List.forall_mem_cons.mpr ⟨lw_p19, List.forall_mem_cons.mpr ⟨lw_p20, List.forall_mem_cons.mpr ⟨lw_p21, List.forall_mem_cons.mpr ⟨lw_p22, List.forall_mem_cons.mpr ⟨lw_p23, List.forall_mem_cons.mpr ⟨lw_p24, List.forall_mem_cons.mpr ⟨lw_p25, List.forall_mem_cons.mpr ⟨lw_p26, List.forall_mem_cons.mpr ⟨lw_p27, List.forall_mem_cons.mpr ⟨lw_p28, List.forall_mem_cons.mpr ⟨lw_p29, List.forall_mem_cons.mpr ⟨lw_p30, List.forall_mem_cons.mpr ⟨lw_p31, fun _ h => absurd h List.not_mem_nil⟩⟩⟩⟩⟩⟩⟩⟩⟩⟩⟩⟩⟩⟩⟩⟩
theorem lw_p32 : lw_okq (⟨"HashLinkedWebModel", "linkSet", "(J)J"⟩, 22) := ⟨⟨by decide +kernel, by decide +kernel⟩, List.mem_of_getElem? (i := 578) (by decide +kernel), List.mem_of_getElem? (i := 760) (by decide +kernel), List.mem_of_getElem? (i := 761) (by decide +kernel)⟩
theorem lw_p33 : lw_okq (⟨"HashLinkedWebModel", "bring", "(IJ)V"⟩, 22) := ⟨⟨by decide +kernel, by decide +kernel⟩, List.mem_of_getElem? (i := 578) (by decide +kernel), List.mem_of_getElem? (i := 764) (by decide +kernel), List.mem_of_getElem? (i := 765) (by decide +kernel)⟩
theorem lw_p34 : lw_okq (⟨"HashLinkedWebModel", "placeOf", "(II)I"⟩, 22) := ⟨⟨by decide +kernel, by decide +kernel⟩, List.mem_of_getElem? (i := 578) (by decide +kernel), List.mem_of_getElem? (i := 791) (by decide +kernel), List.mem_of_getElem? (i := 792) (by decide +kernel)⟩
def lw_privs_3 : List (MethodName × Nat) := [(⟨"HashLinkedWebModel", "linkSet", "(J)J"⟩, 22), (⟨"HashLinkedWebModel", "bring", "(IJ)V"⟩, 22), (⟨"HashLinkedWebModel", "placeOf", "(II)I"⟩, 22)]
theorem lw_r3 : ∀ q ∈ lw_privs_3, lw_okq q := List.forall_mem_cons.mpr ⟨lw_p32, List.forall_mem_cons.mpr ⟨lw_p33, List.forall_mem_cons.mpr ⟨lw_p34, fun _ h => absurd h List.not_mem_nil⟩⟩⟩
def lw_privs : List (MethodName × Nat) := lw_privs_1 ++ (lw_privs_2 ++ (lw_privs_3))
def lw_tbl : List Cond := k2_sels lw_privs ++ tables_1
theorem lw_privs_ok : ∀ q ∈ lw_privs, lw_okq q := by
  show ∀ q ∈ lw_privs_1 ++ (lw_privs_2 ++ (lw_privs_3)), lw_okq q
  exact List.forall_mem_append.mpr ⟨lw_r1, List.forall_mem_append.mpr ⟨lw_r2, lw_r3⟩⟩
end
section
/-! base rows of mine: one list of words for all methods (lw_tbl), a contract's start, calls, long shifts by name -/
def hj_shl (x : Int64) (y : Int32) : Int64 := x <<< (y.toInt64 &&& 63)
def hj_shr (x : Int64) (y : Int32) : Int64 := x >>> (y.toInt64 &&& 63)
def hj_ushr (x : Int64) (y : Int32) : Int64 := (x.toUInt64 >>> (y.toInt64.toUInt64 &&& Int64.toUInt64 63)).toInt64
/-- the words that a method's start keeps under warming: the list that every contract of mine stands on -/
def lg_tbl : List Cond := lw_tbl.filter (fun w => k2_isCode w || goodWord w)
theorem fx_m {w : Cond} (h : (decide (w ∈ lw_tbl) && (k2_isCode w || goodWord w)) = true) : w ∈ lg_tbl := by
  rw [Bool.and_eq_true, decide_eq_true_eq] at h
  exact List.mem_filter.mpr ⟨h.1, h.2⟩
theorem fx_mA {ws : List Cond} (h : (ws.all (fun w => decide (w ∈ lw_tbl) && (k2_isCode w || goodWord w))) = true) : ∀ w ∈ ws, w ∈ lg_tbl := fun w hw => fx_m (List.all_eq_true.mp h w hw)
theorem fx_c {y : MethodName} {b : ByteArray} {n : Nat} {r : Option FieldType} (i : Nat) (h : lw_tbl[i]? = some (.code y b n r)) : Cond.code y b n r ∈ lg_tbl := List.mem_filter.mpr ⟨List.mem_of_getElem? h, rfl⟩
theorem fx_good {w : Cond} (h : w ∈ lg_tbl) : (w.onTables && w.keeps) = true ∨ ∃ ty, w = .arrayClass ty := by
  have h1 := (List.mem_filter.mp h).2
  rw [Bool.or_eq_true] at h1
  rcases h1 with hc | hg
  · cases w <;> first | (simp [k2_isCode] at hc; done) | exact Or.inl rfl
  · exact good_of_word hg
theorem fx_in {ws : List Cond} (h : ∀ w ∈ ws, w ∈ lg_tbl) : GoodIn lg_tbl ws := fun w hw => ⟨h w hw, fx_good (h w hw)⟩
theorem fx_goodV {own : String} {index : Nat} {C : String} {y : MethodName} {bytes : ByteArray} {n : Nat} {ret : Option FieldType} (h1 : Cond.methodLink own index y ∈ lg_tbl) (h2 : Cond.instanceMethod y ∈ lg_tbl) (h3 : Cond.selects C y y ∈ lg_tbl) (h4 : Cond.initialized C ∈ lg_tbl) (h5 : Cond.code y bytes n ret ∈ lg_tbl) : GoodIn lg_tbl (wsV own index C y (.code y bytes n ret :: lg_tbl)) := by
  refine fx_in (fun w hw => ?_)
  unfold wsV at hw
  rcases List.mem_append.mp hw with hw | hw
  · simp only [List.mem_cons, List.not_mem_nil, or_false] at hw
    rcases hw with rfl | rfl | rfl | rfl <;> assumption
  · rcases List.mem_cons.mp hw with rfl | hw
    · exact h5
    · exact hw
theorem fx_goodS {own : String} {index : Nat} {y : MethodName} {bytes : ByteArray} {n : Nat} {ret : Option FieldType} (h1 : Cond.methodLink own index y ∈ lg_tbl) (h2 : Cond.static y ∈ lg_tbl) (h4 : Cond.initialized own ∈ lg_tbl) (h5 : Cond.code y bytes n ret ∈ lg_tbl) : GoodIn lg_tbl (wsS own index y (.code y bytes n ret :: lg_tbl)) := by
  refine fx_in (fun w hw => ?_)
  unfold wsS at hw
  rcases List.mem_append.mp hw with hw | hw
  · simp only [List.mem_cons, List.not_mem_nil, or_false] at hw
    rcases hw with rfl | rfl | rfl <;> assumption
  · rcases List.mem_cons.mp hw with rfl | hw
    · exact h5
    · exact hw
theorem fx_start {l : Launch} {y : MethodName} {cc : ByteArray} {n : Nat} {ret : Option FieldType} {rm : Room} {av : List Value} {B : State → Prop} {Qc : Array Value → State → Outcome → State → Prop} {mc ms : Nat} {free : Nat → Prop} (hy : plainName y.cls = true) (hlen : (lg_sl av).length ≤ n)
    (body : ∀ (p : Program) (e : Env) (s : State) (m : MethodId) (below : List Frame) (meth : Method) (c : Code) (ls : Array Slot), p.tables.exec = Jvm.exec → c.code = cc → meth.sig.returnType = ret → c.maxLocals = n → s.vm.findClass y.cls = some m.cls → (∀ w ∈ lg_tbl, w.before av.toArray s = true) → meth.locks = false → meth.name = y.name → B s → lv_has ls n (lv_args 0 av) →
      W p l e rm s m av.toArray below meth c s.heap [] 0 0 (MQ below Qc av.toArray s mc ms free) (F0 m 0 ls [])) : Met l y (.code y cc n ret :: lg_tbl) rm (va_Pc av B) Qc mc ms free := by
  refine Met.ofW (cc := cc) (maxL := n) (ret := ret) hy rfl ?_
  intro p e s m args below meth c s₁ B0 hml hv
  obtain ⟨rfl, hB⟩ := hv
  have hts := atoms_spec (ws := Cond.code y cc n ret :: lg_tbl) B0.pre
  rw [lg_entry_eq]
  exact body p e s m below meth c _ B0.exec B0.bytes B0.returns hml (findClass_of_methodNamed B0.named) (fun w h => hts w (List.mem_cons_of_mem _ h)) B0.notSynchronized (name_of_methodNamed B0.named B0.method).1 hB (lv_entry av hlen)
/-- the words of nest mates, casts and arrays of objects: kept too, but each by its own law -/
def fx_isN : Cond → Bool
  | .fieldLinkNest .. => true
  | .methodLinkNest .. => true
  | .castable .. => true
  | .arrayOver (.object _) => true
  | _ => false
def fx_N (U : State) : Prop := ∀ w ∈ lw_tbl, fx_isN w = true → va_Nw w U
theorem fx_N.warm {s U : State} (hW : s.WarmedH U.vm) (h : fx_N s) : fx_N U := by
  intro w hw hn
  have h1 := h w hw hn
  cases w <;> first | (simp [fx_isN] at hn; done) | exact va_Nw.warmF hW h1 | exact va_Nw.warmM hW h1 | exact va_Nw.warmC hW h1 | (rename_i ty; cases ty <;> first | (simp [fx_isN] at hn; done) | exact va_AO.moved hW.alike h1)
theorem fx_N.same {u U : State} (hv : u.vm = U.vm) (h : fx_N u) : fx_N U := by
  intro w hw hn
  have h1 := h w hw hn
  cases w <;> first | (simp [fx_isN] at hn; done) | exact va_Nw.same rfl hv h1 | (rename_i ty; cases ty <;> first | (simp [fx_isN] at hn; done) | exact va_AO.moved (by rw [hv]; exact Vm.Alike.refl _) h1)
theorem fx_N.use {U : State} {args : Array Value} {w : Cond} (h : fx_N U) (hw : (decide (w ∈ lw_tbl) && fx_isN w) = true) : w.before args U = true := by
  rw [Bool.and_eq_true, decide_eq_true_eq] at hw
  have h1 := h w hw.1 hw.2
  have hn := hw.2
  cases w <;> first | (simp [fx_isN] at hn; done) | exact va_Nw.use rfl h1 | (rename_i ty; cases ty <;> first | (simp [fx_isN] at hn; done) | exact va_AO.use h1)
/-- a contract's start over a world predicate, and its end -/
def fxB (Wd : Heap → Prop) (D : va_G) (cl : List vw_C) (tys : List (ClassId × FieldType)) : State → Prop := fun U => Wd U.heap ∧ va_K D cl tys U ∧ fx_N U
def fxC {S : Type} (Wd : S → Heap → Prop) : S → State → Prop := fun u t => Wd u t.heap
theorem fx_blind {av : List Value} {Wd : Heap → Prop} {D : va_G} {cl : List vw_C} {tys : List (ClassId × FieldType)} : FrameBlind (va_Pc av (fxB Wd D cl tys)) := fun a U g mk q => ⟨q.1, q.2.1, va_K.moved (u := U) (U := U.calling g mk a) (Vm.Alike.refl U.vm) q.2.2.1, fx_N.same (u := U) (U := U.calling g mk a) rfl q.2.2.2⟩
theorem fx_preV {s : State} {H : Heap} {C : String} {b : Nat} {av : List Value} {Wd : Heap → Prop} {D : va_G} {cl : List vw_C} {tys : List (ClassId × FieldType)} (hr : ∃ cellB : Cell, H[b]? = some cellB ∧ cellB.vm.isStatics = false ∧ s.vm.findClass C = some cellB.cls) (hP : Wd H) (hK : va_K D cl tys s) (hN : fx_N s) : PreV s H C b (va_Pc (.ref b :: av) (fxB Wd D cl tys)) av := ⟨fx_blind, hr, fun U hU hW => ⟨rfl, by rw [hU]; exact hP, va_K.moved hW.alike hK, hN.warm hW⟩⟩
theorem fx_preS {s : State} {H : Heap} {av : List Value} {Wd : Heap → Prop} {D : va_G} {cl : List vw_C} {tys : List (ClassId × FieldType)} (hP : Wd H) (hK : va_K D cl tys s) (hN : fx_N s) : PreS s H (va_Pc av (fxB Wd D cl tys)) av := ⟨fx_blind, fun U hU hW => ⟨rfl, by rw [hU]; exact hP, va_K.moved hW.alike hK, hN.warm hW⟩⟩
section FXC
variable {R : Room} {s : State} {args : Array Value} {own C : String} {index : Nat} {y : MethodName} {bytes : ByteArray} {maxL mc ms : Nat} {ret : Option FieldType} {rm : Room}
theorem fx_cwV (n : Nat) (ht : ∀ w ∈ lg_tbl, w.before args s = true) (hG : GoodIn lg_tbl (wsV own index C y (.code y bytes maxL ret :: lg_tbl))) (hd : y.cls = C ∧ y.cls ≠ "java/lang/invoke/MethodHandle" ∧ y.cls ≠ "java/lang/invoke/VarHandle" ∧ (parseMethodDescriptor y.desc).map (fun d => d.parameters.length) = some n) (hR : rm.frames + 1 ≤ R.frames ∧ 8 + (maxL + 11) + rm.locals ≤ R.locals) : CallW R s args own C index y bytes maxL ret (.code y bytes maxL ret :: lg_tbl) rm rm.cells rm.slots n := cwV n ht hG rfl rfl rfl hd hR
theorem fx_cwS (n : Nat) (ht : ∀ w ∈ lg_tbl, w.before args s = true) (hG : GoodIn lg_tbl (wsS own index y (.code y bytes maxL ret :: lg_tbl))) (hd : y.cls = own ∧ y.cls ≠ "java/lang/invoke/MethodHandle" ∧ y.cls ≠ "java/lang/invoke/VarHandle" ∧ (parseMethodDescriptor y.desc).map (fun d => d.parameters.length) = some n) (hR : rm.frames + 1 ≤ R.frames ∧ 8 + (maxL + 11) + rm.locals ≤ R.locals) : CallB R s args own index y bytes maxL ret (.code y bytes maxL ret :: lg_tbl) rm rm.cells rm.slots n ∧ (Cond.static y).before args s = true := cwS n ht hG rfl rfl rfl hd hR
end FXC
end
section
/-! names of mine (printed by a program): classes, their fields, the list of classes -/
def RXM : String := "HashLinkedWebModel"
def RXW : String := "HashLinkedWeb"
def RXKn : String := "HashLinkedWeb$Known"
def RXRo : String := "HashLinkedWeb$Row"
def RXRe : String := "HashLinkedWeb$Replica"
def RXOp : String := "HashLinkedWeb$Operation"
def RXDr : String := "HashLinkedWeb$Draft"
def RXMe : String := "HashLinkedWeb$Member"
def RXAs : String := "HashLinkedWeb$Asking"
def RXAL : String := "java/util/ArrayList"
def RXBL : String := "java/util/AbstractList"
def RXBC : String := "java/util/AbstractCollection"
def RXAr : String := "java/util/Arrays"
def RXOb : String := "java/util/Objects"
def RXPr : String := "jdk/internal/util/Preconditions"
def RXAS : String := "jdk/internal/util/ArraysSupport"
def RXL : String := "HashLinkedWebLaw"
def TXM : u_T := fun k => match k with
  | 0 => ("HashLinkedWebModel", "count", "I", false)
  | 1 => ("HashLinkedWebModel", "hash", "[J", true)
  | 2 => ("HashLinkedWebModel", "author", "[I", true)
  | 3 => ("HashLinkedWebModel", "kind", "[I", true)
  | 4 => ("HashLinkedWebModel", "key", "[I", true)
  | 5 => ("HashLinkedWebModel", "value", "[I", true)
  | 6 => ("HashLinkedWebModel", "links", "[I", true)
  | 7 => ("HashLinkedWebModel", "link", "[J", true)
  | 8 => ("HashLinkedWebModel", "past", "[J", true)
  | 9 => ("HashLinkedWebModel", "depth", "[I", true)
  | 10 => ("HashLinkedWebModel", "holds", "[J", true)
  | 11 => ("HashLinkedWebModel", "waits", "[I", true)
  | 12 => ("HashLinkedWebModel", "waitHash", "[J", true)
  | 13 => ("HashLinkedWebModel", "waitNumbers", "[I", true)
  | 14 => ("HashLinkedWebModel", "waitLink", "[J", true)
  | 15 => ("HashLinkedWebModel", "draftNumbers", "[I", true)
  | 16 => ("HashLinkedWebModel", "draftLink", "[J", true)
  | 17 => ("HashLinkedWebModel", "numbers", "[I", true)
  | 18 => ("HashLinkedWebModel", "comingLink", "[J", true)
  | 19 => ("HashLinkedWebModel", "coming", "J", false)
  | 20 => ("HashLinkedWebModel", "sorted", "I", false)
  | _ => ("HashLinkedWebModel", "order", "[I", true)
def tyXM : Nat → FieldType := fun k => match k with
  | 0 => .int
  | 1 => .array .long
  | 2 => .array .int
  | 3 => .array .int
  | 4 => .array .int
  | 5 => .array .int
  | 6 => .array .int
  | 7 => .array .long
  | 8 => .array .long
  | 9 => .array .int
  | 10 => .array .long
  | 11 => .array .int
  | 12 => .array .long
  | 13 => .array .int
  | 14 => .array .long
  | 15 => .array .int
  | 16 => .array .long
  | 17 => .array .int
  | 18 => .array .long
  | 19 => .long
  | 20 => .int
  | _ => .array .int
def TXW : u_T := fun k => match k with
  | 0 => ("HashLinkedWeb", "known", "LHashLinkedWeb$Known;", true)
  | 1 => ("HashLinkedWeb", "replicas", "[LHashLinkedWeb$Replica;", true)
  | 2 => ("HashLinkedWeb", "draft", "LHashLinkedWeb$Draft;", true)
  | _ => ("HashLinkedWeb", "written", "LHashLinkedWeb$Draft;", true)
def tyXW : Nat → FieldType := fun k => match k with
  | 0 => .object "HashLinkedWeb$Known"
  | 1 => .array (.object "HashLinkedWeb$Replica")
  | 2 => .object "HashLinkedWeb$Draft"
  | _ => .object "HashLinkedWeb$Draft"
def TXKn : u_T := fun k => match k with
  | _ => ("HashLinkedWeb$Known", "members", "LHashLinkedWeb$Row;", true)
def tyXKn : Nat → FieldType := fun k => match k with
  | _ => .object "HashLinkedWeb$Row"
def TXRo : u_T := fun k => match k with
  | 0 => ("HashLinkedWeb$Row", "places", "[LHashLinkedWeb$Member;", true)
  | _ => ("HashLinkedWeb$Row", "size", "I", false)
def tyXRo : Nat → FieldType := fun k => match k with
  | 0 => .array (.object "HashLinkedWeb$Member")
  | _ => .int
def TXRe : u_T := fun k => match k with
  | 0 => ("HashLinkedWeb$Replica", "known", "LHashLinkedWeb$Known;", true)
  | 1 => ("HashLinkedWeb$Replica", "orderRow", "LHashLinkedWeb$Row;", true)
  | 2 => ("HashLinkedWeb$Replica", "headRow", "LHashLinkedWeb$Row;", true)
  | 3 => ("HashLinkedWeb$Replica", "waitingRow", "Ljava/util/ArrayList;", true)
  | _ => ("HashLinkedWeb$Replica", "heldSet", "J", false)
def tyXRe : Nat → FieldType := fun k => match k with
  | 0 => .object "HashLinkedWeb$Known"
  | 1 => .object "HashLinkedWeb$Row"
  | 2 => .object "HashLinkedWeb$Row"
  | 3 => .object "java/util/ArrayList"
  | _ => .long
def TXOp : u_T := fun k => match k with
  | 0 => ("HashLinkedWeb$Operation", "author", "I", true)
  | 1 => ("HashLinkedWeb$Operation", "kind", "I", true)
  | 2 => ("HashLinkedWeb$Operation", "key", "I", true)
  | 3 => ("HashLinkedWeb$Operation", "value", "I", true)
  | 4 => ("HashLinkedWeb$Operation", "links", "[J", true)
  | _ => ("HashLinkedWeb$Operation", "hash", "J", true)
def tyXOp : Nat → FieldType := fun k => match k with
  | 0 => .int
  | 1 => .int
  | 2 => .int
  | 3 => .int
  | 4 => .array .long
  | _ => .long
def TXDr : u_T := fun k => match k with
  | 0 => ("HashLinkedWeb$Draft", "author", "I", false)
  | 1 => ("HashLinkedWeb$Draft", "kind", "I", false)
  | 2 => ("HashLinkedWeb$Draft", "key", "I", false)
  | 3 => ("HashLinkedWeb$Draft", "value", "I", false)
  | 4 => ("HashLinkedWeb$Draft", "linkCount", "I", false)
  | _ => ("HashLinkedWeb$Draft", "links", "[J", true)
def tyXDr : Nat → FieldType := fun k => match k with
  | 0 => .int
  | 1 => .int
  | 2 => .int
  | 3 => .int
  | 4 => .int
  | _ => .array .long
def TXMe : u_T := fun k => match k with
  | 0 => ("HashLinkedWeb$Member", "operation", "LHashLinkedWeb$Operation;", true)
  | 1 => ("HashLinkedWeb$Member", "number", "I", true)
  | 2 => ("HashLinkedWeb$Member", "depth", "I", true)
  | 3 => ("HashLinkedWeb$Member", "linkSet", "J", true)
  | _ => ("HashLinkedWeb$Member", "past", "J", true)
def tyXMe : Nat → FieldType := fun k => match k with
  | 0 => .object "HashLinkedWeb$Operation"
  | 1 => .int
  | 2 => .int
  | 3 => .long
  | _ => .long
def TXAs : u_T := fun k => match k with
  | 0 => ("HashLinkedWeb$Asking", "known", "LHashLinkedWeb$Known;", true)
  | 1 => ("HashLinkedWeb$Asking", "asker", "LHashLinkedWeb$Replica;", true)
  | 2 => ("HashLinkedWeb$Asking", "teller", "LHashLinkedWeb$Replica;", true)
  | 3 => ("HashLinkedWeb$Asking", "lacking", "J", false)
  | _ => ("HashLinkedWeb$Asking", "got", "J", false)
def tyXAs : Nat → FieldType := fun k => match k with
  | 0 => .object "HashLinkedWeb$Known"
  | 1 => .object "HashLinkedWeb$Replica"
  | 2 => .object "HashLinkedWeb$Replica"
  | 3 => .long
  | _ => .long
def TXAL : u_T := fun k => match k with
  | 0 => ("java/util/AbstractList", "modCount", "I", false)
  | 1 => ("java/util/ArrayList", "elementData", "[Ljava/lang/Object;", false)
  | _ => ("java/util/ArrayList", "size", "I", false)
def tyXAL : Nat → FieldType := fun k => match k with
  | 0 => .int
  | 1 => .array (.object "java/lang/Object")
  | _ => .int
abbrev vwCl : List vw_C := [(RXM, TXM, 22), (RXW, TXW, 4), (RXKn, TXKn, 1), (RXRo, TXRo, 2), (RXRe, TXRe, 5), (RXOp, TXOp, 6), (RXDr, TXDr, 6), (RXMe, TXMe, 5), (RXAs, TXAs, 5), (RXAL, TXAL, 3)]
end
section
abbrev cXM_isReplica : ByteArray := prog_10_method_2_code
def yXM_isReplica : MethodName := ⟨RXM, "isReplica", "(I)Z"⟩
set_option maxRecDepth 100000 in
theorem qXM_isReplica : Cond.code yXM_isReplica cXM_isReplica 1 (some .boolean) ∈ lg_tbl := fx_c 692 rfl
theorem hdXM_isReplica : yXM_isReplica.cls = RXM ∧ yXM_isReplica.cls ≠ "java/lang/invoke/MethodHandle" ∧ yXM_isReplica.cls ≠ "java/lang/invoke/VarHandle" ∧ (parseMethodDescriptor yXM_isReplica.desc).map (fun d => d.parameters.length) = some 1 := by decide +kernel
theorem dXM_isReplica_0 : decode cXM_isReplica 0 = .ok (.iload_n 0, 1) := by decide +kernel
theorem dXM_isReplica_1 : decode cXM_isReplica 1 = .ok (.ifCond .lt 12, 3) := by decide +kernel
theorem dXM_isReplica_4 : decode cXM_isReplica 4 = .ok (.iload_n 0, 1) := by decide +kernel
theorem dXM_isReplica_5 : decode cXM_isReplica 5 = .ok (.iconst 3, 1) := by decide +kernel
theorem dXM_isReplica_6 : decode cXM_isReplica 6 = .ok (.if_icmp .gt 7, 3) := by decide +kernel
theorem dXM_isReplica_9 : decode cXM_isReplica 9 = .ok (.iconst 1, 1) := by decide +kernel
theorem dXM_isReplica_10 : decode cXM_isReplica 10 = .ok (.goto 4, 3) := by decide +kernel
theorem dXM_isReplica_13 : decode cXM_isReplica 13 = .ok (.iconst 0, 1) := by decide +kernel
theorem dXM_isReplica_14 : decode cXM_isReplica 14 = .ok (.ireturn, 1) := by decide +kernel
abbrev cXM_taken : ByteArray := prog_10_method_3_code
def yXM_taken : MethodName := ⟨RXM, "taken", "(JJ)J"⟩
set_option maxRecDepth 100000 in
theorem qXM_taken : Cond.code yXM_taken cXM_taken 6 (some .long) ∈ lg_tbl := fx_c 719 rfl
theorem hdXM_taken : yXM_taken.cls = RXM ∧ yXM_taken.cls ≠ "java/lang/invoke/MethodHandle" ∧ yXM_taken.cls ≠ "java/lang/invoke/VarHandle" ∧ (parseMethodDescriptor yXM_taken.desc).map (fun d => d.parameters.length) = some 2 := by decide +kernel
theorem dXM_taken_0 : decode cXM_taken 0 = .ok (.lload_n 0, 1) := by decide +kernel
theorem dXM_taken_1 : decode cXM_taken 1 = .ok (.lload_n 2, 1) := by decide +kernel
theorem dXM_taken_2 : decode cXM_taken 2 = .ok (.lxor, 1) := by decide +kernel
theorem dXM_taken_3 : decode cXM_taken 3 = .ok (.ldc2_w 68, 3) := by decide +kernel
theorem dXM_taken_6 : decode cXM_taken 6 = .ok (.lmul, 1) := by decide +kernel
theorem dXM_taken_7 : decode cXM_taken 7 = .ok (.lstore 4, 2) := by decide +kernel
theorem dXM_taken_9 : decode cXM_taken 9 = .ok (.lload 4, 2) := by decide +kernel
theorem dXM_taken_11 : decode cXM_taken 11 = .ok (.lload 4, 2) := by decide +kernel
theorem dXM_taken_13 : decode cXM_taken 13 = .ok (.bipush 29, 2) := by decide +kernel
theorem dXM_taken_15 : decode cXM_taken 15 = .ok (.lushr, 1) := by decide +kernel
theorem dXM_taken_16 : decode cXM_taken 16 = .ok (.lxor, 1) := by decide +kernel
theorem dXM_taken_17 : decode cXM_taken 17 = .ok (.lreturn, 1) := by decide +kernel
abbrev cXM_hashOf : ByteArray := prog_10_method_4_code
def yXM_hashOf : MethodName := ⟨RXM, "hashOf", "([I[J)J"⟩
set_option maxRecDepth 100000 in
theorem qXM_hashOf : Cond.code yXM_hashOf cXM_hashOf 5 (some .long) ∈ lg_tbl := fx_c 715 rfl
theorem hdXM_hashOf : yXM_hashOf.cls = RXM ∧ yXM_hashOf.cls ≠ "java/lang/invoke/MethodHandle" ∧ yXM_hashOf.cls ≠ "java/lang/invoke/VarHandle" ∧ (parseMethodDescriptor yXM_hashOf.desc).map (fun d => d.parameters.length) = some 2 := by decide +kernel
theorem dXM_hashOf_0 : decode cXM_hashOf 0 = .ok (.ldc2_w 70, 3) := by decide +kernel
theorem dXM_hashOf_3 : decode cXM_hashOf 3 = .ok (.lstore_n 2, 1) := by decide +kernel
theorem dXM_hashOf_4 : decode cXM_hashOf 4 = .ok (.iconst 0, 1) := by decide +kernel
theorem dXM_hashOf_5 : decode cXM_hashOf 5 = .ok (.istore 4, 2) := by decide +kernel
theorem dXM_hashOf_7 : decode cXM_hashOf 7 = .ok (.iload 4, 2) := by decide +kernel
theorem dXM_hashOf_9 : decode cXM_hashOf 9 = .ok (.iconst 5, 1) := by decide +kernel
theorem dXM_hashOf_10 : decode cXM_hashOf 10 = .ok (.if_icmp .ge 19, 3) := by decide +kernel
theorem dXM_hashOf_13 : decode cXM_hashOf 13 = .ok (.lload_n 2, 1) := by decide +kernel
theorem dXM_hashOf_14 : decode cXM_hashOf 14 = .ok (.aload_n 0, 1) := by decide +kernel
theorem dXM_hashOf_15 : decode cXM_hashOf 15 = .ok (.iload 4, 2) := by decide +kernel
theorem dXM_hashOf_17 : decode cXM_hashOf 17 = .ok (.iaload, 1) := by decide +kernel
theorem dXM_hashOf_18 : decode cXM_hashOf 18 = .ok (.i2l, 1) := by decide +kernel
theorem dXM_hashOf_19 : decode cXM_hashOf 19 = .ok (.invokestatic 72, 3) := by decide +kernel
theorem dXM_hashOf_22 : decode cXM_hashOf 22 = .ok (.lstore_n 2, 1) := by decide +kernel
theorem dXM_hashOf_23 : decode cXM_hashOf 23 = .ok (.iinc 4 1, 3) := by decide +kernel
theorem dXM_hashOf_26 : decode cXM_hashOf 26 = .ok (.goto (-19), 3) := by decide +kernel
theorem dXM_hashOf_29 : decode cXM_hashOf 29 = .ok (.iconst 0, 1) := by decide +kernel
theorem dXM_hashOf_30 : decode cXM_hashOf 30 = .ok (.istore 4, 2) := by decide +kernel
theorem dXM_hashOf_32 : decode cXM_hashOf 32 = .ok (.iload 4, 2) := by decide +kernel
theorem dXM_hashOf_34 : decode cXM_hashOf 34 = .ok (.aload_n 0, 1) := by decide +kernel
theorem dXM_hashOf_35 : decode cXM_hashOf 35 = .ok (.iconst 4, 1) := by decide +kernel
theorem dXM_hashOf_36 : decode cXM_hashOf 36 = .ok (.iaload, 1) := by decide +kernel
theorem dXM_hashOf_37 : decode cXM_hashOf 37 = .ok (.if_icmp .ge 18, 3) := by decide +kernel
theorem dXM_hashOf_40 : decode cXM_hashOf 40 = .ok (.lload_n 2, 1) := by decide +kernel
theorem dXM_hashOf_41 : decode cXM_hashOf 41 = .ok (.aload_n 1, 1) := by decide +kernel
theorem dXM_hashOf_42 : decode cXM_hashOf 42 = .ok (.iload 4, 2) := by decide +kernel
theorem dXM_hashOf_44 : decode cXM_hashOf 44 = .ok (.laload, 1) := by decide +kernel
theorem dXM_hashOf_45 : decode cXM_hashOf 45 = .ok (.invokestatic 72, 3) := by decide +kernel
theorem dXM_hashOf_48 : decode cXM_hashOf 48 = .ok (.lstore_n 2, 1) := by decide +kernel
theorem dXM_hashOf_49 : decode cXM_hashOf 49 = .ok (.iinc 4 1, 3) := by decide +kernel
theorem dXM_hashOf_52 : decode cXM_hashOf 52 = .ok (.goto (-20), 3) := by decide +kernel
theorem dXM_hashOf_55 : decode cXM_hashOf 55 = .ok (.lload_n 2, 1) := by decide +kernel
theorem dXM_hashOf_56 : decode cXM_hashOf 56 = .ok (.lreturn, 1) := by decide +kernel
abbrev cXM_find : ByteArray := prog_10_method_5_code
def yXM_find : MethodName := ⟨RXM, "find", "(J)I"⟩
set_option maxRecDepth 100000 in
theorem qXM_find : Cond.code yXM_find cXM_find 5 (some .int) ∈ lg_tbl := fx_c 732 rfl
theorem hdXM_find : yXM_find.cls = RXM ∧ yXM_find.cls ≠ "java/lang/invoke/MethodHandle" ∧ yXM_find.cls ≠ "java/lang/invoke/VarHandle" ∧ (parseMethodDescriptor yXM_find.desc).map (fun d => d.parameters.length) = some 1 := by decide +kernel
theorem dXM_find_0 : decode cXM_find 0 = .ok (.iconst (-1), 1) := by decide +kernel
theorem dXM_find_1 : decode cXM_find 1 = .ok (.istore_n 3, 1) := by decide +kernel
theorem dXM_find_2 : decode cXM_find 2 = .ok (.iconst 0, 1) := by decide +kernel
theorem dXM_find_3 : decode cXM_find 3 = .ok (.istore 4, 2) := by decide +kernel
theorem dXM_find_5 : decode cXM_find 5 = .ok (.iload 4, 2) := by decide +kernel
theorem dXM_find_7 : decode cXM_find 7 = .ok (.aload_n 0, 1) := by decide +kernel
theorem dXM_find_8 : decode cXM_find 8 = .ok (.getfield 76, 3) := by decide +kernel
theorem dXM_find_11 : decode cXM_find 11 = .ok (.if_icmp .ge 28, 3) := by decide +kernel
theorem dXM_find_14 : decode cXM_find 14 = .ok (.aload_n 0, 1) := by decide +kernel
theorem dXM_find_15 : decode cXM_find 15 = .ok (.getfield 7, 3) := by decide +kernel
theorem dXM_find_18 : decode cXM_find 18 = .ok (.iload 4, 2) := by decide +kernel
theorem dXM_find_20 : decode cXM_find 20 = .ok (.laload, 1) := by decide +kernel
theorem dXM_find_21 : decode cXM_find 21 = .ok (.lload_n 1, 1) := by decide +kernel
theorem dXM_find_22 : decode cXM_find 22 = .ok (.lcmp, 1) := by decide +kernel
theorem dXM_find_23 : decode cXM_find 23 = .ok (.ifCond .ne 8, 3) := by decide +kernel
theorem dXM_find_26 : decode cXM_find 26 = .ok (.iload 4, 2) := by decide +kernel
theorem dXM_find_28 : decode cXM_find 28 = .ok (.goto 4, 3) := by decide +kernel
theorem dXM_find_31 : decode cXM_find 31 = .ok (.iload_n 3, 1) := by decide +kernel
theorem dXM_find_32 : decode cXM_find 32 = .ok (.istore_n 3, 1) := by decide +kernel
theorem dXM_find_33 : decode cXM_find 33 = .ok (.iinc 4 1, 3) := by decide +kernel
theorem dXM_find_36 : decode cXM_find 36 = .ok (.goto (-31), 3) := by decide +kernel
theorem dXM_find_39 : decode cXM_find 39 = .ok (.iload_n 3, 1) := by decide +kernel
theorem dXM_find_40 : decode cXM_find 40 = .ok (.ireturn, 1) := by decide +kernel
abbrev cXM_in : ByteArray := prog_10_method_6_code
def yXM_in : MethodName := ⟨RXM, "in", "(JI)Z"⟩
set_option maxRecDepth 100000 in
theorem qXM_in : Cond.code yXM_in cXM_in 3 (some .boolean) ∈ lg_tbl := fx_c 703 rfl
theorem hdXM_in : yXM_in.cls = RXM ∧ yXM_in.cls ≠ "java/lang/invoke/MethodHandle" ∧ yXM_in.cls ≠ "java/lang/invoke/VarHandle" ∧ (parseMethodDescriptor yXM_in.desc).map (fun d => d.parameters.length) = some 2 := by decide +kernel
theorem dXM_in_0 : decode cXM_in 0 = .ok (.iload_n 2, 1) := by decide +kernel
theorem dXM_in_1 : decode cXM_in 1 = .ok (.ifCond .lt 17, 3) := by decide +kernel
theorem dXM_in_4 : decode cXM_in 4 = .ok (.lload_n 0, 1) := by decide +kernel
theorem dXM_in_5 : decode cXM_in 5 = .ok (.iload_n 2, 1) := by decide +kernel
theorem dXM_in_6 : decode cXM_in 6 = .ok (.lshr, 1) := by decide +kernel
theorem dXM_in_7 : decode cXM_in 7 = .ok (.lconst 1, 1) := by decide +kernel
theorem dXM_in_8 : decode cXM_in 8 = .ok (.land, 1) := by decide +kernel
theorem dXM_in_9 : decode cXM_in 9 = .ok (.lconst 1, 1) := by decide +kernel
theorem dXM_in_10 : decode cXM_in 10 = .ok (.lcmp, 1) := by decide +kernel
theorem dXM_in_11 : decode cXM_in 11 = .ok (.ifCond .ne 7, 3) := by decide +kernel
theorem dXM_in_14 : decode cXM_in 14 = .ok (.iconst 1, 1) := by decide +kernel
theorem dXM_in_15 : decode cXM_in 15 = .ok (.goto 4, 3) := by decide +kernel
theorem dXM_in_18 : decode cXM_in 18 = .ok (.iconst 0, 1) := by decide +kernel
theorem dXM_in_19 : decode cXM_in 19 = .ok (.ireturn, 1) := by decide +kernel
abbrev cXM_become : ByteArray := prog_10_method_7_code
def yXM_become : MethodName := ⟨RXM, "become", "(I)V"⟩
set_option maxRecDepth 100000 in
theorem qXM_become : Cond.code yXM_become cXM_become 3 none ∈ lg_tbl := fx_c 736 rfl
theorem hdXM_become : yXM_become.cls = RXM ∧ yXM_become.cls ≠ "java/lang/invoke/MethodHandle" ∧ yXM_become.cls ≠ "java/lang/invoke/VarHandle" ∧ (parseMethodDescriptor yXM_become.desc).map (fun d => d.parameters.length) = some 1 := by decide +kernel
theorem dXM_become_0 : decode cXM_become 0 = .ok (.aload_n 0, 1) := by decide +kernel
theorem dXM_become_1 : decode cXM_become 1 = .ok (.aload_n 0, 1) := by decide +kernel
theorem dXM_become_2 : decode cXM_become 2 = .ok (.getfield 7, 3) := by decide +kernel
theorem dXM_become_5 : decode cXM_become 5 = .ok (.iload_n 1, 1) := by decide +kernel
theorem dXM_become_6 : decode cXM_become 6 = .ok (.laload, 1) := by decide +kernel
theorem dXM_become_7 : decode cXM_become 7 = .ok (.putfield 80, 3) := by decide +kernel
theorem dXM_become_10 : decode cXM_become 10 = .ok (.aload_n 0, 1) := by decide +kernel
theorem dXM_become_11 : decode cXM_become 11 = .ok (.getfield 59, 3) := by decide +kernel
theorem dXM_become_14 : decode cXM_become 14 = .ok (.iconst 0, 1) := by decide +kernel
theorem dXM_become_15 : decode cXM_become 15 = .ok (.aload_n 0, 1) := by decide +kernel
theorem dXM_become_16 : decode cXM_become 16 = .ok (.getfield 13, 3) := by decide +kernel
theorem dXM_become_19 : decode cXM_become 19 = .ok (.iload_n 1, 1) := by decide +kernel
theorem dXM_become_20 : decode cXM_become 20 = .ok (.iaload, 1) := by decide +kernel
theorem dXM_become_21 : decode cXM_become 21 = .ok (.iastore, 1) := by decide +kernel
theorem dXM_become_22 : decode cXM_become 22 = .ok (.aload_n 0, 1) := by decide +kernel
theorem dXM_become_23 : decode cXM_become 23 = .ok (.getfield 59, 3) := by decide +kernel
theorem dXM_become_26 : decode cXM_become 26 = .ok (.iconst 1, 1) := by decide +kernel
theorem dXM_become_27 : decode cXM_become 27 = .ok (.aload_n 0, 1) := by decide +kernel
theorem dXM_become_28 : decode cXM_become 28 = .ok (.getfield 17, 3) := by decide +kernel
theorem dXM_become_31 : decode cXM_become 31 = .ok (.iload_n 1, 1) := by decide +kernel
theorem dXM_become_32 : decode cXM_become 32 = .ok (.iaload, 1) := by decide +kernel
theorem dXM_become_33 : decode cXM_become 33 = .ok (.iastore, 1) := by decide +kernel
theorem dXM_become_34 : decode cXM_become 34 = .ok (.aload_n 0, 1) := by decide +kernel
theorem dXM_become_35 : decode cXM_become 35 = .ok (.getfield 59, 3) := by decide +kernel
theorem dXM_become_38 : decode cXM_become 38 = .ok (.iconst 2, 1) := by decide +kernel
theorem dXM_become_39 : decode cXM_become 39 = .ok (.aload_n 0, 1) := by decide +kernel
theorem dXM_become_40 : decode cXM_become 40 = .ok (.getfield 20, 3) := by decide +kernel
theorem dXM_become_43 : decode cXM_become 43 = .ok (.iload_n 1, 1) := by decide +kernel
theorem dXM_become_44 : decode cXM_become 44 = .ok (.iaload, 1) := by decide +kernel
theorem dXM_become_45 : decode cXM_become 45 = .ok (.iastore, 1) := by decide +kernel
theorem dXM_become_46 : decode cXM_become 46 = .ok (.aload_n 0, 1) := by decide +kernel
theorem dXM_become_47 : decode cXM_become 47 = .ok (.getfield 59, 3) := by decide +kernel
theorem dXM_become_50 : decode cXM_become 50 = .ok (.iconst 3, 1) := by decide +kernel
theorem dXM_become_51 : decode cXM_become 51 = .ok (.aload_n 0, 1) := by decide +kernel
theorem dXM_become_52 : decode cXM_become 52 = .ok (.getfield 23, 3) := by decide +kernel
theorem dXM_become_55 : decode cXM_become 55 = .ok (.iload_n 1, 1) := by decide +kernel
theorem dXM_become_56 : decode cXM_become 56 = .ok (.iaload, 1) := by decide +kernel
theorem dXM_become_57 : decode cXM_become 57 = .ok (.iastore, 1) := by decide +kernel
theorem dXM_become_58 : decode cXM_become 58 = .ok (.aload_n 0, 1) := by decide +kernel
theorem dXM_become_59 : decode cXM_become 59 = .ok (.getfield 59, 3) := by decide +kernel
theorem dXM_become_62 : decode cXM_become 62 = .ok (.iconst 4, 1) := by decide +kernel
theorem dXM_become_63 : decode cXM_become 63 = .ok (.aload_n 0, 1) := by decide +kernel
theorem dXM_become_64 : decode cXM_become 64 = .ok (.getfield 26, 3) := by decide +kernel
theorem dXM_become_67 : decode cXM_become 67 = .ok (.iload_n 1, 1) := by decide +kernel
theorem dXM_become_68 : decode cXM_become 68 = .ok (.iaload, 1) := by decide +kernel
theorem dXM_become_69 : decode cXM_become 69 = .ok (.iastore, 1) := by decide +kernel
theorem dXM_become_70 : decode cXM_become 70 = .ok (.iconst 0, 1) := by decide +kernel
theorem dXM_become_71 : decode cXM_become 71 = .ok (.istore_n 2, 1) := by decide +kernel
theorem dXM_become_72 : decode cXM_become 72 = .ok (.iload_n 2, 1) := by decide +kernel
theorem dXM_become_73 : decode cXM_become 73 = .ok (.iconst 4, 1) := by decide +kernel
theorem dXM_become_74 : decode cXM_become 74 = .ok (.if_icmp .ge 25, 3) := by decide +kernel
theorem dXM_become_77 : decode cXM_become 77 = .ok (.aload_n 0, 1) := by decide +kernel
theorem dXM_become_78 : decode cXM_become 78 = .ok (.getfield 62, 3) := by decide +kernel
theorem dXM_become_81 : decode cXM_become 81 = .ok (.iload_n 2, 1) := by decide +kernel
theorem dXM_become_82 : decode cXM_become 82 = .ok (.aload_n 0, 1) := by decide +kernel
theorem dXM_become_83 : decode cXM_become 83 = .ok (.getfield 29, 3) := by decide +kernel
theorem dXM_become_86 : decode cXM_become 86 = .ok (.iconst 4, 1) := by decide +kernel
theorem dXM_become_87 : decode cXM_become 87 = .ok (.iload_n 1, 1) := by decide +kernel
theorem dXM_become_88 : decode cXM_become 88 = .ok (.imul, 1) := by decide +kernel
theorem dXM_become_89 : decode cXM_become 89 = .ok (.iload_n 2, 1) := by decide +kernel
theorem dXM_become_90 : decode cXM_become 90 = .ok (.iadd, 1) := by decide +kernel
theorem dXM_become_91 : decode cXM_become 91 = .ok (.laload, 1) := by decide +kernel
theorem dXM_become_92 : decode cXM_become 92 = .ok (.lastore, 1) := by decide +kernel
theorem dXM_become_93 : decode cXM_become 93 = .ok (.iinc 2 1, 3) := by decide +kernel
theorem dXM_become_96 : decode cXM_become 96 = .ok (.goto (-24), 3) := by decide +kernel
theorem dXM_become_99 : decode cXM_become 99 = .ok (.return_, 1) := by decide +kernel
abbrev cXM_inShape : ByteArray := prog_10_method_8_code
def yXM_inShape : MethodName := ⟨RXM, "inShape", "()Z"⟩
set_option maxRecDepth 100000 in
theorem qXM_inShape : Cond.code yXM_inShape cXM_inShape 3 (some .boolean) ∈ lg_tbl := fx_c 740 rfl
theorem hdXM_inShape : yXM_inShape.cls = RXM ∧ yXM_inShape.cls ≠ "java/lang/invoke/MethodHandle" ∧ yXM_inShape.cls ≠ "java/lang/invoke/VarHandle" ∧ (parseMethodDescriptor yXM_inShape.desc).map (fun d => d.parameters.length) = some 0 := by decide +kernel
theorem dXM_inShape_0 : decode cXM_inShape 0 = .ok (.aload_n 0, 1) := by decide +kernel
theorem dXM_inShape_1 : decode cXM_inShape 1 = .ok (.getfield 59, 3) := by decide +kernel
theorem dXM_inShape_4 : decode cXM_inShape 4 = .ok (.iconst 0, 1) := by decide +kernel
theorem dXM_inShape_5 : decode cXM_inShape 5 = .ok (.iaload, 1) := by decide +kernel
theorem dXM_inShape_6 : decode cXM_inShape 6 = .ok (.ifCond .lt 56, 3) := by decide +kernel
theorem dXM_inShape_9 : decode cXM_inShape 9 = .ok (.aload_n 0, 1) := by decide +kernel
theorem dXM_inShape_10 : decode cXM_inShape 10 = .ok (.getfield 59, 3) := by decide +kernel
theorem dXM_inShape_13 : decode cXM_inShape 13 = .ok (.iconst 0, 1) := by decide +kernel
theorem dXM_inShape_14 : decode cXM_inShape 14 = .ok (.iaload, 1) := by decide +kernel
theorem dXM_inShape_15 : decode cXM_inShape 15 = .ok (.iconst 3, 1) := by decide +kernel
theorem dXM_inShape_16 : decode cXM_inShape 16 = .ok (.if_icmp .gt 46, 3) := by decide +kernel
theorem dXM_inShape_19 : decode cXM_inShape 19 = .ok (.aload_n 0, 1) := by decide +kernel
theorem dXM_inShape_20 : decode cXM_inShape 20 = .ok (.getfield 59, 3) := by decide +kernel
theorem dXM_inShape_23 : decode cXM_inShape 23 = .ok (.iconst 1, 1) := by decide +kernel
theorem dXM_inShape_24 : decode cXM_inShape 24 = .ok (.iaload, 1) := by decide +kernel
theorem dXM_inShape_25 : decode cXM_inShape 25 = .ok (.ifCond .lt 37, 3) := by decide +kernel
theorem dXM_inShape_28 : decode cXM_inShape 28 = .ok (.aload_n 0, 1) := by decide +kernel
theorem dXM_inShape_29 : decode cXM_inShape 29 = .ok (.getfield 59, 3) := by decide +kernel
theorem dXM_inShape_32 : decode cXM_inShape 32 = .ok (.iconst 1, 1) := by decide +kernel
theorem dXM_inShape_33 : decode cXM_inShape 33 = .ok (.iaload, 1) := by decide +kernel
theorem dXM_inShape_34 : decode cXM_inShape 34 = .ok (.iconst 3, 1) := by decide +kernel
theorem dXM_inShape_35 : decode cXM_inShape 35 = .ok (.if_icmp .gt 27, 3) := by decide +kernel
theorem dXM_inShape_38 : decode cXM_inShape 38 = .ok (.aload_n 0, 1) := by decide +kernel
theorem dXM_inShape_39 : decode cXM_inShape 39 = .ok (.getfield 59, 3) := by decide +kernel
theorem dXM_inShape_42 : decode cXM_inShape 42 = .ok (.iconst 2, 1) := by decide +kernel
theorem dXM_inShape_43 : decode cXM_inShape 43 = .ok (.iaload, 1) := by decide +kernel
theorem dXM_inShape_44 : decode cXM_inShape 44 = .ok (.ifCond .lt 18, 3) := by decide +kernel
theorem dXM_inShape_47 : decode cXM_inShape 47 = .ok (.aload_n 0, 1) := by decide +kernel
theorem dXM_inShape_48 : decode cXM_inShape 48 = .ok (.getfield 59, 3) := by decide +kernel
theorem dXM_inShape_51 : decode cXM_inShape 51 = .ok (.iconst 2, 1) := by decide +kernel
theorem dXM_inShape_52 : decode cXM_inShape 52 = .ok (.iaload, 1) := by decide +kernel
theorem dXM_inShape_53 : decode cXM_inShape 53 = .ok (.bipush 7, 2) := by decide +kernel
theorem dXM_inShape_55 : decode cXM_inShape 55 = .ok (.if_icmp .gt 7, 3) := by decide +kernel
theorem dXM_inShape_58 : decode cXM_inShape 58 = .ok (.iconst 1, 1) := by decide +kernel
theorem dXM_inShape_59 : decode cXM_inShape 59 = .ok (.goto 4, 3) := by decide +kernel
theorem dXM_inShape_62 : decode cXM_inShape 62 = .ok (.iconst 0, 1) := by decide +kernel
theorem dXM_inShape_63 : decode cXM_inShape 63 = .ok (.istore_n 1, 1) := by decide +kernel
theorem dXM_inShape_64 : decode cXM_inShape 64 = .ok (.iconst 1, 1) := by decide +kernel
theorem dXM_inShape_65 : decode cXM_inShape 65 = .ok (.istore_n 2, 1) := by decide +kernel
theorem dXM_inShape_66 : decode cXM_inShape 66 = .ok (.iload_n 2, 1) := by decide +kernel
theorem dXM_inShape_67 : decode cXM_inShape 67 = .ok (.aload_n 0, 1) := by decide +kernel
theorem dXM_inShape_68 : decode cXM_inShape 68 = .ok (.getfield 59, 3) := by decide +kernel
theorem dXM_inShape_71 : decode cXM_inShape 71 = .ok (.iconst 4, 1) := by decide +kernel
theorem dXM_inShape_72 : decode cXM_inShape 72 = .ok (.iaload, 1) := by decide +kernel
theorem dXM_inShape_73 : decode cXM_inShape 73 = .ok (.if_icmp .ge 37, 3) := by decide +kernel
theorem dXM_inShape_76 : decode cXM_inShape 76 = .ok (.iload_n 1, 1) := by decide +kernel
theorem dXM_inShape_77 : decode cXM_inShape 77 = .ok (.ifCond .eq 25, 3) := by decide +kernel
theorem dXM_inShape_80 : decode cXM_inShape 80 = .ok (.aload_n 0, 1) := by decide +kernel
theorem dXM_inShape_81 : decode cXM_inShape 81 = .ok (.getfield 62, 3) := by decide +kernel
theorem dXM_inShape_84 : decode cXM_inShape 84 = .ok (.iload_n 2, 1) := by decide +kernel
theorem dXM_inShape_85 : decode cXM_inShape 85 = .ok (.iconst 1, 1) := by decide +kernel
theorem dXM_inShape_86 : decode cXM_inShape 86 = .ok (.isub, 1) := by decide +kernel
theorem dXM_inShape_87 : decode cXM_inShape 87 = .ok (.laload, 1) := by decide +kernel
theorem dXM_inShape_88 : decode cXM_inShape 88 = .ok (.aload_n 0, 1) := by decide +kernel
theorem dXM_inShape_89 : decode cXM_inShape 89 = .ok (.getfield 62, 3) := by decide +kernel
theorem dXM_inShape_92 : decode cXM_inShape 92 = .ok (.iload_n 2, 1) := by decide +kernel
theorem dXM_inShape_93 : decode cXM_inShape 93 = .ok (.laload, 1) := by decide +kernel
theorem dXM_inShape_94 : decode cXM_inShape 94 = .ok (.lcmp, 1) := by decide +kernel
theorem dXM_inShape_95 : decode cXM_inShape 95 = .ok (.ifCond .ge 7, 3) := by decide +kernel
theorem dXM_inShape_98 : decode cXM_inShape 98 = .ok (.iconst 1, 1) := by decide +kernel
theorem dXM_inShape_99 : decode cXM_inShape 99 = .ok (.goto 4, 3) := by decide +kernel
theorem dXM_inShape_102 : decode cXM_inShape 102 = .ok (.iconst 0, 1) := by decide +kernel
theorem dXM_inShape_103 : decode cXM_inShape 103 = .ok (.istore_n 1, 1) := by decide +kernel
theorem dXM_inShape_104 : decode cXM_inShape 104 = .ok (.iinc 2 1, 3) := by decide +kernel
theorem dXM_inShape_107 : decode cXM_inShape 107 = .ok (.goto (-41), 3) := by decide +kernel
theorem dXM_inShape_110 : decode cXM_inShape 110 = .ok (.iload_n 1, 1) := by decide +kernel
theorem dXM_inShape_111 : decode cXM_inShape 111 = .ok (.ireturn, 1) := by decide +kernel
abbrev cXM_linksHeld : ByteArray := prog_10_method_9_code
def yXM_linksHeld : MethodName := ⟨RXM, "linksHeld", "(I)Z"⟩
set_option maxRecDepth 100000 in
theorem qXM_linksHeld : Cond.code yXM_linksHeld cXM_linksHeld 4 (some .boolean) ∈ lg_tbl := fx_c 744 rfl
theorem hdXM_linksHeld : yXM_linksHeld.cls = RXM ∧ yXM_linksHeld.cls ≠ "java/lang/invoke/MethodHandle" ∧ yXM_linksHeld.cls ≠ "java/lang/invoke/VarHandle" ∧ (parseMethodDescriptor yXM_linksHeld.desc).map (fun d => d.parameters.length) = some 1 := by decide +kernel
theorem dXM_linksHeld_0 : decode cXM_linksHeld 0 = .ok (.iconst 1, 1) := by decide +kernel
theorem dXM_linksHeld_1 : decode cXM_linksHeld 1 = .ok (.istore_n 2, 1) := by decide +kernel
theorem dXM_linksHeld_2 : decode cXM_linksHeld 2 = .ok (.iconst 0, 1) := by decide +kernel
theorem dXM_linksHeld_3 : decode cXM_linksHeld 3 = .ok (.istore_n 3, 1) := by decide +kernel
theorem dXM_linksHeld_4 : decode cXM_linksHeld 4 = .ok (.iload_n 3, 1) := by decide +kernel
theorem dXM_linksHeld_5 : decode cXM_linksHeld 5 = .ok (.aload_n 0, 1) := by decide +kernel
theorem dXM_linksHeld_6 : decode cXM_linksHeld 6 = .ok (.getfield 59, 3) := by decide +kernel
theorem dXM_linksHeld_9 : decode cXM_linksHeld 9 = .ok (.iconst 4, 1) := by decide +kernel
theorem dXM_linksHeld_10 : decode cXM_linksHeld 10 = .ok (.iaload, 1) := by decide +kernel
theorem dXM_linksHeld_11 : decode cXM_linksHeld 11 = .ok (.if_icmp .ge 41, 3) := by decide +kernel
theorem dXM_linksHeld_14 : decode cXM_linksHeld 14 = .ok (.iload_n 2, 1) := by decide +kernel
theorem dXM_linksHeld_15 : decode cXM_linksHeld 15 = .ok (.ifCond .eq 29, 3) := by decide +kernel
theorem dXM_linksHeld_18 : decode cXM_linksHeld 18 = .ok (.aload_n 0, 1) := by decide +kernel
theorem dXM_linksHeld_19 : decode cXM_linksHeld 19 = .ok (.getfield 38, 3) := by decide +kernel
theorem dXM_linksHeld_22 : decode cXM_linksHeld 22 = .ok (.iload_n 1, 1) := by decide +kernel
theorem dXM_linksHeld_23 : decode cXM_linksHeld 23 = .ok (.laload, 1) := by decide +kernel
theorem dXM_linksHeld_24 : decode cXM_linksHeld 24 = .ok (.aload_n 0, 1) := by decide +kernel
theorem dXM_linksHeld_25 : decode cXM_linksHeld 25 = .ok (.aload_n 0, 1) := by decide +kernel
theorem dXM_linksHeld_26 : decode cXM_linksHeld 26 = .ok (.getfield 62, 3) := by decide +kernel
theorem dXM_linksHeld_29 : decode cXM_linksHeld 29 = .ok (.iload_n 3, 1) := by decide +kernel
theorem dXM_linksHeld_30 : decode cXM_linksHeld 30 = .ok (.laload, 1) := by decide +kernel
theorem dXM_linksHeld_31 : decode cXM_linksHeld 31 = .ok (.invokevirtual 84, 3) := by decide +kernel
theorem dXM_linksHeld_34 : decode cXM_linksHeld 34 = .ok (.invokestatic 88, 3) := by decide +kernel
theorem dXM_linksHeld_37 : decode cXM_linksHeld 37 = .ok (.ifCond .eq 7, 3) := by decide +kernel
theorem dXM_linksHeld_40 : decode cXM_linksHeld 40 = .ok (.iconst 1, 1) := by decide +kernel
theorem dXM_linksHeld_41 : decode cXM_linksHeld 41 = .ok (.goto 4, 3) := by decide +kernel
theorem dXM_linksHeld_44 : decode cXM_linksHeld 44 = .ok (.iconst 0, 1) := by decide +kernel
theorem dXM_linksHeld_45 : decode cXM_linksHeld 45 = .ok (.istore_n 2, 1) := by decide +kernel
theorem dXM_linksHeld_46 : decode cXM_linksHeld 46 = .ok (.iinc 3 1, 3) := by decide +kernel
theorem dXM_linksHeld_49 : decode cXM_linksHeld 49 = .ok (.goto (-45), 3) := by decide +kernel
theorem dXM_linksHeld_52 : decode cXM_linksHeld 52 = .ok (.iload_n 2, 1) := by decide +kernel
theorem dXM_linksHeld_53 : decode cXM_linksHeld 53 = .ok (.ireturn, 1) := by decide +kernel
abbrev cXM_pastOf : ByteArray := prog_10_method_10_code
def yXM_pastOf : MethodName := ⟨RXM, "pastOf", "()J"⟩
set_option maxRecDepth 100000 in
theorem qXM_pastOf : Cond.code yXM_pastOf cXM_pastOf 5 (some .long) ∈ lg_tbl := fx_c 760 rfl
theorem hdXM_pastOf : yXM_pastOf.cls = RXM ∧ yXM_pastOf.cls ≠ "java/lang/invoke/MethodHandle" ∧ yXM_pastOf.cls ≠ "java/lang/invoke/VarHandle" ∧ (parseMethodDescriptor yXM_pastOf.desc).map (fun d => d.parameters.length) = some 0 := by decide +kernel
theorem dXM_pastOf_0 : decode cXM_pastOf 0 = .ok (.lconst 0, 1) := by decide +kernel
theorem dXM_pastOf_1 : decode cXM_pastOf 1 = .ok (.lstore_n 1, 1) := by decide +kernel
theorem dXM_pastOf_2 : decode cXM_pastOf 2 = .ok (.iconst 0, 1) := by decide +kernel
theorem dXM_pastOf_3 : decode cXM_pastOf 3 = .ok (.istore_n 3, 1) := by decide +kernel
theorem dXM_pastOf_4 : decode cXM_pastOf 4 = .ok (.iload_n 3, 1) := by decide +kernel
theorem dXM_pastOf_5 : decode cXM_pastOf 5 = .ok (.aload_n 0, 1) := by decide +kernel
theorem dXM_pastOf_6 : decode cXM_pastOf 6 = .ok (.getfield 59, 3) := by decide +kernel
theorem dXM_pastOf_9 : decode cXM_pastOf 9 = .ok (.iconst 4, 1) := by decide +kernel
theorem dXM_pastOf_10 : decode cXM_pastOf 10 = .ok (.iaload, 1) := by decide +kernel
theorem dXM_pastOf_11 : decode cXM_pastOf 11 = .ok (.if_icmp .ge 36, 3) := by decide +kernel
theorem dXM_pastOf_14 : decode cXM_pastOf 14 = .ok (.aload_n 0, 1) := by decide +kernel
theorem dXM_pastOf_15 : decode cXM_pastOf 15 = .ok (.aload_n 0, 1) := by decide +kernel
theorem dXM_pastOf_16 : decode cXM_pastOf 16 = .ok (.getfield 62, 3) := by decide +kernel
theorem dXM_pastOf_19 : decode cXM_pastOf 19 = .ok (.iload_n 3, 1) := by decide +kernel
theorem dXM_pastOf_20 : decode cXM_pastOf 20 = .ok (.laload, 1) := by decide +kernel
theorem dXM_pastOf_21 : decode cXM_pastOf 21 = .ok (.invokevirtual 84, 3) := by decide +kernel
theorem dXM_pastOf_24 : decode cXM_pastOf 24 = .ok (.istore 4, 2) := by decide +kernel
theorem dXM_pastOf_26 : decode cXM_pastOf 26 = .ok (.lload_n 1, 1) := by decide +kernel
theorem dXM_pastOf_27 : decode cXM_pastOf 27 = .ok (.aload_n 0, 1) := by decide +kernel
theorem dXM_pastOf_28 : decode cXM_pastOf 28 = .ok (.getfield 32, 3) := by decide +kernel
theorem dXM_pastOf_31 : decode cXM_pastOf 31 = .ok (.iload 4, 2) := by decide +kernel
theorem dXM_pastOf_33 : decode cXM_pastOf 33 = .ok (.laload, 1) := by decide +kernel
theorem dXM_pastOf_34 : decode cXM_pastOf 34 = .ok (.lor, 1) := by decide +kernel
theorem dXM_pastOf_35 : decode cXM_pastOf 35 = .ok (.lconst 1, 1) := by decide +kernel
theorem dXM_pastOf_36 : decode cXM_pastOf 36 = .ok (.iload 4, 2) := by decide +kernel
theorem dXM_pastOf_38 : decode cXM_pastOf 38 = .ok (.lshl, 1) := by decide +kernel
theorem dXM_pastOf_39 : decode cXM_pastOf 39 = .ok (.lor, 1) := by decide +kernel
theorem dXM_pastOf_40 : decode cXM_pastOf 40 = .ok (.lstore_n 1, 1) := by decide +kernel
theorem dXM_pastOf_41 : decode cXM_pastOf 41 = .ok (.iinc 3 1, 3) := by decide +kernel
theorem dXM_pastOf_44 : decode cXM_pastOf 44 = .ok (.goto (-40), 3) := by decide +kernel
theorem dXM_pastOf_47 : decode cXM_pastOf 47 = .ok (.lload_n 1, 1) := by decide +kernel
theorem dXM_pastOf_48 : decode cXM_pastOf 48 = .ok (.lreturn, 1) := by decide +kernel
abbrev cXM_isRight : ByteArray := prog_10_method_11_code
def yXM_isRight : MethodName := ⟨RXM, "isRight", "()Z"⟩
set_option maxRecDepth 100000 in
theorem qXM_isRight : Cond.code yXM_isRight cXM_isRight 8 (some .boolean) ∈ lg_tbl := fx_c 756 rfl
theorem hdXM_isRight : yXM_isRight.cls = RXM ∧ yXM_isRight.cls ≠ "java/lang/invoke/MethodHandle" ∧ yXM_isRight.cls ≠ "java/lang/invoke/VarHandle" ∧ (parseMethodDescriptor yXM_isRight.desc).map (fun d => d.parameters.length) = some 0 := by decide +kernel
theorem dXM_isRight_0 : decode cXM_isRight 0 = .ok (.aload_n 0, 1) := by decide +kernel
theorem dXM_isRight_1 : decode cXM_isRight 1 = .ok (.invokevirtual 92, 3) := by decide +kernel
theorem dXM_isRight_4 : decode cXM_isRight 4 = .ok (.lstore_n 1, 1) := by decide +kernel
theorem dXM_isRight_5 : decode cXM_isRight 5 = .ok (.iconst 1, 1) := by decide +kernel
theorem dXM_isRight_6 : decode cXM_isRight 6 = .ok (.istore_n 3, 1) := by decide +kernel
theorem dXM_isRight_7 : decode cXM_isRight 7 = .ok (.iconst 0, 1) := by decide +kernel
theorem dXM_isRight_8 : decode cXM_isRight 8 = .ok (.istore 4, 2) := by decide +kernel
theorem dXM_isRight_10 : decode cXM_isRight 10 = .ok (.iload 4, 2) := by decide +kernel
theorem dXM_isRight_12 : decode cXM_isRight 12 = .ok (.aload_n 0, 1) := by decide +kernel
theorem dXM_isRight_13 : decode cXM_isRight 13 = .ok (.getfield 59, 3) := by decide +kernel
theorem dXM_isRight_16 : decode cXM_isRight 16 = .ok (.iconst 4, 1) := by decide +kernel
theorem dXM_isRight_17 : decode cXM_isRight 17 = .ok (.iaload, 1) := by decide +kernel
theorem dXM_isRight_18 : decode cXM_isRight 18 = .ok (.if_icmp .ge 76, 3) := by decide +kernel
theorem dXM_isRight_21 : decode cXM_isRight 21 = .ok (.aload_n 0, 1) := by decide +kernel
theorem dXM_isRight_22 : decode cXM_isRight 22 = .ok (.aload_n 0, 1) := by decide +kernel
theorem dXM_isRight_23 : decode cXM_isRight 23 = .ok (.getfield 62, 3) := by decide +kernel
theorem dXM_isRight_26 : decode cXM_isRight 26 = .ok (.iload 4, 2) := by decide +kernel
theorem dXM_isRight_28 : decode cXM_isRight 28 = .ok (.laload, 1) := by decide +kernel
theorem dXM_isRight_29 : decode cXM_isRight 29 = .ok (.invokevirtual 84, 3) := by decide +kernel
theorem dXM_isRight_32 : decode cXM_isRight 32 = .ok (.istore 5, 2) := by decide +kernel
theorem dXM_isRight_34 : decode cXM_isRight 34 = .ok (.iconst 0, 1) := by decide +kernel
theorem dXM_isRight_35 : decode cXM_isRight 35 = .ok (.istore 6, 2) := by decide +kernel
theorem dXM_isRight_37 : decode cXM_isRight 37 = .ok (.iload 6, 2) := by decide +kernel
theorem dXM_isRight_39 : decode cXM_isRight 39 = .ok (.aload_n 0, 1) := by decide +kernel
theorem dXM_isRight_40 : decode cXM_isRight 40 = .ok (.getfield 59, 3) := by decide +kernel
theorem dXM_isRight_43 : decode cXM_isRight 43 = .ok (.iconst 4, 1) := by decide +kernel
theorem dXM_isRight_44 : decode cXM_isRight 44 = .ok (.iaload, 1) := by decide +kernel
theorem dXM_isRight_45 : decode cXM_isRight 45 = .ok (.if_icmp .ge 43, 3) := by decide +kernel
theorem dXM_isRight_48 : decode cXM_isRight 48 = .ok (.iload_n 3, 1) := by decide +kernel
theorem dXM_isRight_49 : decode cXM_isRight 49 = .ok (.ifCond .eq 31, 3) := by decide +kernel
theorem dXM_isRight_52 : decode cXM_isRight 52 = .ok (.aload_n 0, 1) := by decide +kernel
theorem dXM_isRight_53 : decode cXM_isRight 53 = .ok (.getfield 32, 3) := by decide +kernel
theorem dXM_isRight_56 : decode cXM_isRight 56 = .ok (.aload_n 0, 1) := by decide +kernel
theorem dXM_isRight_57 : decode cXM_isRight 57 = .ok (.aload_n 0, 1) := by decide +kernel
theorem dXM_isRight_58 : decode cXM_isRight 58 = .ok (.getfield 62, 3) := by decide +kernel
theorem dXM_isRight_61 : decode cXM_isRight 61 = .ok (.iload 6, 2) := by decide +kernel
theorem dXM_isRight_63 : decode cXM_isRight 63 = .ok (.laload, 1) := by decide +kernel
theorem dXM_isRight_64 : decode cXM_isRight 64 = .ok (.invokevirtual 84, 3) := by decide +kernel
theorem dXM_isRight_67 : decode cXM_isRight 67 = .ok (.laload, 1) := by decide +kernel
theorem dXM_isRight_68 : decode cXM_isRight 68 = .ok (.iload 5, 2) := by decide +kernel
theorem dXM_isRight_70 : decode cXM_isRight 70 = .ok (.invokestatic 88, 3) := by decide +kernel
theorem dXM_isRight_73 : decode cXM_isRight 73 = .ok (.ifCond .ne 7, 3) := by decide +kernel
theorem dXM_isRight_76 : decode cXM_isRight 76 = .ok (.iconst 1, 1) := by decide +kernel
theorem dXM_isRight_77 : decode cXM_isRight 77 = .ok (.goto 4, 3) := by decide +kernel
theorem dXM_isRight_80 : decode cXM_isRight 80 = .ok (.iconst 0, 1) := by decide +kernel
theorem dXM_isRight_81 : decode cXM_isRight 81 = .ok (.istore_n 3, 1) := by decide +kernel
theorem dXM_isRight_82 : decode cXM_isRight 82 = .ok (.iinc 6 1, 3) := by decide +kernel
theorem dXM_isRight_85 : decode cXM_isRight 85 = .ok (.goto (-48), 3) := by decide +kernel
theorem dXM_isRight_88 : decode cXM_isRight 88 = .ok (.iinc 4 1, 3) := by decide +kernel
theorem dXM_isRight_91 : decode cXM_isRight 91 = .ok (.goto (-81), 3) := by decide +kernel
theorem dXM_isRight_94 : decode cXM_isRight 94 = .ok (.iconst 0, 1) := by decide +kernel
theorem dXM_isRight_95 : decode cXM_isRight 95 = .ok (.istore 4, 2) := by decide +kernel
theorem dXM_isRight_97 : decode cXM_isRight 97 = .ok (.iload 4, 2) := by decide +kernel
theorem dXM_isRight_99 : decode cXM_isRight 99 = .ok (.aload_n 0, 1) := by decide +kernel
theorem dXM_isRight_100 : decode cXM_isRight 100 = .ok (.getfield 76, 3) := by decide +kernel
theorem dXM_isRight_103 : decode cXM_isRight 103 = .ok (.if_icmp .ge 194, 3) := by decide +kernel
theorem dXM_isRight_106 : decode cXM_isRight 106 = .ok (.lload_n 1, 1) := by decide +kernel
theorem dXM_isRight_107 : decode cXM_isRight 107 = .ok (.iload 4, 2) := by decide +kernel
theorem dXM_isRight_109 : decode cXM_isRight 109 = .ok (.invokestatic 88, 3) := by decide +kernel
theorem dXM_isRight_112 : decode cXM_isRight 112 = .ok (.ifCond .eq 50, 3) := by decide +kernel
theorem dXM_isRight_115 : decode cXM_isRight 115 = .ok (.aload_n 0, 1) := by decide +kernel
theorem dXM_isRight_116 : decode cXM_isRight 116 = .ok (.getfield 17, 3) := by decide +kernel
theorem dXM_isRight_119 : decode cXM_isRight 119 = .ok (.iload 4, 2) := by decide +kernel
theorem dXM_isRight_121 : decode cXM_isRight 121 = .ok (.iaload, 1) := by decide +kernel
theorem dXM_isRight_122 : decode cXM_isRight 122 = .ok (.iconst 2, 1) := by decide +kernel
theorem dXM_isRight_123 : decode cXM_isRight 123 = .ok (.if_icmp .ne 39, 3) := by decide +kernel
theorem dXM_isRight_126 : decode cXM_isRight 126 = .ok (.aload_n 0, 1) := by decide +kernel
theorem dXM_isRight_127 : decode cXM_isRight 127 = .ok (.getfield 20, 3) := by decide +kernel
theorem dXM_isRight_130 : decode cXM_isRight 130 = .ok (.iload 4, 2) := by decide +kernel
theorem dXM_isRight_132 : decode cXM_isRight 132 = .ok (.iaload, 1) := by decide +kernel
theorem dXM_isRight_133 : decode cXM_isRight 133 = .ok (.aload_n 0, 1) := by decide +kernel
theorem dXM_isRight_134 : decode cXM_isRight 134 = .ok (.getfield 59, 3) := by decide +kernel
theorem dXM_isRight_137 : decode cXM_isRight 137 = .ok (.iconst 2, 1) := by decide +kernel
theorem dXM_isRight_138 : decode cXM_isRight 138 = .ok (.iaload, 1) := by decide +kernel
theorem dXM_isRight_139 : decode cXM_isRight 139 = .ok (.if_icmp .ne 23, 3) := by decide +kernel
theorem dXM_isRight_142 : decode cXM_isRight 142 = .ok (.aload_n 0, 1) := by decide +kernel
theorem dXM_isRight_143 : decode cXM_isRight 143 = .ok (.getfield 13, 3) := by decide +kernel
theorem dXM_isRight_146 : decode cXM_isRight 146 = .ok (.iload 4, 2) := by decide +kernel
theorem dXM_isRight_148 : decode cXM_isRight 148 = .ok (.iaload, 1) := by decide +kernel
theorem dXM_isRight_149 : decode cXM_isRight 149 = .ok (.aload_n 0, 1) := by decide +kernel
theorem dXM_isRight_150 : decode cXM_isRight 150 = .ok (.getfield 59, 3) := by decide +kernel
theorem dXM_isRight_153 : decode cXM_isRight 153 = .ok (.iconst 0, 1) := by decide +kernel
theorem dXM_isRight_154 : decode cXM_isRight 154 = .ok (.iaload, 1) := by decide +kernel
theorem dXM_isRight_155 : decode cXM_isRight 155 = .ok (.if_icmp .eq 7, 3) := by decide +kernel
theorem dXM_isRight_158 : decode cXM_isRight 158 = .ok (.iconst 1, 1) := by decide +kernel
theorem dXM_isRight_159 : decode cXM_isRight 159 = .ok (.goto 4, 3) := by decide +kernel
theorem dXM_isRight_162 : decode cXM_isRight 162 = .ok (.iconst 0, 1) := by decide +kernel
theorem dXM_isRight_163 : decode cXM_isRight 163 = .ok (.istore 5, 2) := by decide +kernel
theorem dXM_isRight_165 : decode cXM_isRight 165 = .ok (.iconst 0, 1) := by decide +kernel
theorem dXM_isRight_166 : decode cXM_isRight 166 = .ok (.istore 6, 2) := by decide +kernel
theorem dXM_isRight_168 : decode cXM_isRight 168 = .ok (.iconst 0, 1) := by decide +kernel
theorem dXM_isRight_169 : decode cXM_isRight 169 = .ok (.istore 7, 2) := by decide +kernel
theorem dXM_isRight_171 : decode cXM_isRight 171 = .ok (.iload 7, 2) := by decide +kernel
theorem dXM_isRight_173 : decode cXM_isRight 173 = .ok (.aload_n 0, 1) := by decide +kernel
theorem dXM_isRight_174 : decode cXM_isRight 174 = .ok (.getfield 76, 3) := by decide +kernel
theorem dXM_isRight_177 : decode cXM_isRight 177 = .ok (.if_icmp .ge 94, 3) := by decide +kernel
theorem dXM_isRight_180 : decode cXM_isRight 180 = .ok (.iload 5, 2) := by decide +kernel
theorem dXM_isRight_182 : decode cXM_isRight 182 = .ok (.ifCond .eq 89, 3) := by decide +kernel
theorem dXM_isRight_185 : decode cXM_isRight 185 = .ok (.iload 6, 2) := by decide +kernel
theorem dXM_isRight_187 : decode cXM_isRight 187 = .ok (.ifCond .ne 71, 3) := by decide +kernel
theorem dXM_isRight_190 : decode cXM_isRight 190 = .ok (.lload_n 1, 1) := by decide +kernel
theorem dXM_isRight_191 : decode cXM_isRight 191 = .ok (.iload 7, 2) := by decide +kernel
theorem dXM_isRight_193 : decode cXM_isRight 193 = .ok (.invokestatic 88, 3) := by decide +kernel
theorem dXM_isRight_196 : decode cXM_isRight 196 = .ok (.ifCond .eq 66, 3) := by decide +kernel
theorem dXM_isRight_199 : decode cXM_isRight 199 = .ok (.aload_n 0, 1) := by decide +kernel
theorem dXM_isRight_200 : decode cXM_isRight 200 = .ok (.getfield 17, 3) := by decide +kernel
theorem dXM_isRight_203 : decode cXM_isRight 203 = .ok (.iload 7, 2) := by decide +kernel
theorem dXM_isRight_205 : decode cXM_isRight 205 = .ok (.iaload, 1) := by decide +kernel
theorem dXM_isRight_206 : decode cXM_isRight 206 = .ok (.iconst 3, 1) := by decide +kernel
theorem dXM_isRight_207 : decode cXM_isRight 207 = .ok (.if_icmp .ne 55, 3) := by decide +kernel
theorem dXM_isRight_210 : decode cXM_isRight 210 = .ok (.aload_n 0, 1) := by decide +kernel
theorem dXM_isRight_211 : decode cXM_isRight 211 = .ok (.getfield 20, 3) := by decide +kernel
theorem dXM_isRight_214 : decode cXM_isRight 214 = .ok (.iload 7, 2) := by decide +kernel
theorem dXM_isRight_216 : decode cXM_isRight 216 = .ok (.iaload, 1) := by decide +kernel
theorem dXM_isRight_217 : decode cXM_isRight 217 = .ok (.aload_n 0, 1) := by decide +kernel
theorem dXM_isRight_218 : decode cXM_isRight 218 = .ok (.getfield 59, 3) := by decide +kernel
theorem dXM_isRight_221 : decode cXM_isRight 221 = .ok (.iconst 2, 1) := by decide +kernel
theorem dXM_isRight_222 : decode cXM_isRight 222 = .ok (.iaload, 1) := by decide +kernel
theorem dXM_isRight_223 : decode cXM_isRight 223 = .ok (.if_icmp .ne 39, 3) := by decide +kernel
theorem dXM_isRight_226 : decode cXM_isRight 226 = .ok (.aload_n 0, 1) := by decide +kernel
theorem dXM_isRight_227 : decode cXM_isRight 227 = .ok (.getfield 13, 3) := by decide +kernel
theorem dXM_isRight_230 : decode cXM_isRight 230 = .ok (.iload 7, 2) := by decide +kernel
theorem dXM_isRight_232 : decode cXM_isRight 232 = .ok (.iaload, 1) := by decide +kernel
theorem dXM_isRight_233 : decode cXM_isRight 233 = .ok (.aload_n 0, 1) := by decide +kernel
theorem dXM_isRight_234 : decode cXM_isRight 234 = .ok (.getfield 13, 3) := by decide +kernel
theorem dXM_isRight_237 : decode cXM_isRight 237 = .ok (.iload 4, 2) := by decide +kernel
theorem dXM_isRight_239 : decode cXM_isRight 239 = .ok (.iaload, 1) := by decide +kernel
theorem dXM_isRight_240 : decode cXM_isRight 240 = .ok (.if_icmp .ne 22, 3) := by decide +kernel
theorem dXM_isRight_243 : decode cXM_isRight 243 = .ok (.aload_n 0, 1) := by decide +kernel
theorem dXM_isRight_244 : decode cXM_isRight 244 = .ok (.getfield 32, 3) := by decide +kernel
theorem dXM_isRight_247 : decode cXM_isRight 247 = .ok (.iload 7, 2) := by decide +kernel
theorem dXM_isRight_249 : decode cXM_isRight 249 = .ok (.laload, 1) := by decide +kernel
theorem dXM_isRight_250 : decode cXM_isRight 250 = .ok (.iload 4, 2) := by decide +kernel
theorem dXM_isRight_252 : decode cXM_isRight 252 = .ok (.invokestatic 88, 3) := by decide +kernel
theorem dXM_isRight_255 : decode cXM_isRight 255 = .ok (.ifCond .eq 7, 3) := by decide +kernel
theorem dXM_isRight_258 : decode cXM_isRight 258 = .ok (.iconst 1, 1) := by decide +kernel
theorem dXM_isRight_259 : decode cXM_isRight 259 = .ok (.goto 4, 3) := by decide +kernel
theorem dXM_isRight_262 : decode cXM_isRight 262 = .ok (.iconst 0, 1) := by decide +kernel
theorem dXM_isRight_263 : decode cXM_isRight 263 = .ok (.istore 6, 2) := by decide +kernel
theorem dXM_isRight_265 : decode cXM_isRight 265 = .ok (.iinc 7 1, 3) := by decide +kernel
theorem dXM_isRight_268 : decode cXM_isRight 268 = .ok (.goto (-97), 3) := by decide +kernel
theorem dXM_isRight_271 : decode cXM_isRight 271 = .ok (.iload_n 3, 1) := by decide +kernel
theorem dXM_isRight_272 : decode cXM_isRight 272 = .ok (.ifCond .eq 17, 3) := by decide +kernel
theorem dXM_isRight_275 : decode cXM_isRight 275 = .ok (.iload 5, 2) := by decide +kernel
theorem dXM_isRight_277 : decode cXM_isRight 277 = .ok (.ifCond .eq 8, 3) := by decide +kernel
theorem dXM_isRight_280 : decode cXM_isRight 280 = .ok (.iload 6, 2) := by decide +kernel
theorem dXM_isRight_282 : decode cXM_isRight 282 = .ok (.ifCond .eq 7, 3) := by decide +kernel
theorem dXM_isRight_285 : decode cXM_isRight 285 = .ok (.iconst 1, 1) := by decide +kernel
theorem dXM_isRight_286 : decode cXM_isRight 286 = .ok (.goto 4, 3) := by decide +kernel
theorem dXM_isRight_289 : decode cXM_isRight 289 = .ok (.iconst 0, 1) := by decide +kernel
theorem dXM_isRight_290 : decode cXM_isRight 290 = .ok (.istore_n 3, 1) := by decide +kernel
theorem dXM_isRight_291 : decode cXM_isRight 291 = .ok (.iinc 4 1, 3) := by decide +kernel
theorem dXM_isRight_294 : decode cXM_isRight 294 = .ok (.goto (-197), 3) := by decide +kernel
theorem dXM_isRight_297 : decode cXM_isRight 297 = .ok (.iload_n 3, 1) := by decide +kernel
theorem dXM_isRight_298 : decode cXM_isRight 298 = .ok (.ireturn, 1) := by decide +kernel
end
section
abbrev cXM_depthOf : ByteArray := prog_10_method_12_code
def yXM_depthOf : MethodName := ⟨RXM, "depthOf", "()I"⟩
set_option maxRecDepth 100000 in
theorem qXM_depthOf : Cond.code yXM_depthOf cXM_depthOf 4 (some .int) ∈ lg_tbl := fx_c 768 rfl
theorem hdXM_depthOf : yXM_depthOf.cls = RXM ∧ yXM_depthOf.cls ≠ "java/lang/invoke/MethodHandle" ∧ yXM_depthOf.cls ≠ "java/lang/invoke/VarHandle" ∧ (parseMethodDescriptor yXM_depthOf.desc).map (fun d => d.parameters.length) = some 0 := by decide +kernel
theorem dXM_depthOf_0 : decode cXM_depthOf 0 = .ok (.iconst 0, 1) := by decide +kernel
theorem dXM_depthOf_1 : decode cXM_depthOf 1 = .ok (.istore_n 1, 1) := by decide +kernel
theorem dXM_depthOf_2 : decode cXM_depthOf 2 = .ok (.iconst 0, 1) := by decide +kernel
theorem dXM_depthOf_3 : decode cXM_depthOf 3 = .ok (.istore_n 2, 1) := by decide +kernel
theorem dXM_depthOf_4 : decode cXM_depthOf 4 = .ok (.iload_n 2, 1) := by decide +kernel
theorem dXM_depthOf_5 : decode cXM_depthOf 5 = .ok (.aload_n 0, 1) := by decide +kernel
theorem dXM_depthOf_6 : decode cXM_depthOf 6 = .ok (.getfield 59, 3) := by decide +kernel
theorem dXM_depthOf_9 : decode cXM_depthOf 9 = .ok (.iconst 4, 1) := by decide +kernel
theorem dXM_depthOf_10 : decode cXM_depthOf 10 = .ok (.iaload, 1) := by decide +kernel
theorem dXM_depthOf_11 : decode cXM_depthOf 11 = .ok (.if_icmp .ge 41, 3) := by decide +kernel
theorem dXM_depthOf_14 : decode cXM_depthOf 14 = .ok (.aload_n 0, 1) := by decide +kernel
theorem dXM_depthOf_15 : decode cXM_depthOf 15 = .ok (.aload_n 0, 1) := by decide +kernel
theorem dXM_depthOf_16 : decode cXM_depthOf 16 = .ok (.getfield 62, 3) := by decide +kernel
theorem dXM_depthOf_19 : decode cXM_depthOf 19 = .ok (.iload_n 2, 1) := by decide +kernel
theorem dXM_depthOf_20 : decode cXM_depthOf 20 = .ok (.laload, 1) := by decide +kernel
theorem dXM_depthOf_21 : decode cXM_depthOf 21 = .ok (.invokevirtual 84, 3) := by decide +kernel
theorem dXM_depthOf_24 : decode cXM_depthOf 24 = .ok (.istore_n 3, 1) := by decide +kernel
theorem dXM_depthOf_25 : decode cXM_depthOf 25 = .ok (.aload_n 0, 1) := by decide +kernel
theorem dXM_depthOf_26 : decode cXM_depthOf 26 = .ok (.getfield 35, 3) := by decide +kernel
theorem dXM_depthOf_29 : decode cXM_depthOf 29 = .ok (.iload_n 3, 1) := by decide +kernel
theorem dXM_depthOf_30 : decode cXM_depthOf 30 = .ok (.iaload, 1) := by decide +kernel
theorem dXM_depthOf_31 : decode cXM_depthOf 31 = .ok (.iload_n 1, 1) := by decide +kernel
theorem dXM_depthOf_32 : decode cXM_depthOf 32 = .ok (.if_icmp .le 12, 3) := by decide +kernel
theorem dXM_depthOf_35 : decode cXM_depthOf 35 = .ok (.aload_n 0, 1) := by decide +kernel
theorem dXM_depthOf_36 : decode cXM_depthOf 36 = .ok (.getfield 35, 3) := by decide +kernel
theorem dXM_depthOf_39 : decode cXM_depthOf 39 = .ok (.iload_n 3, 1) := by decide +kernel
theorem dXM_depthOf_40 : decode cXM_depthOf 40 = .ok (.iaload, 1) := by decide +kernel
theorem dXM_depthOf_41 : decode cXM_depthOf 41 = .ok (.goto 4, 3) := by decide +kernel
theorem dXM_depthOf_44 : decode cXM_depthOf 44 = .ok (.iload_n 1, 1) := by decide +kernel
theorem dXM_depthOf_45 : decode cXM_depthOf 45 = .ok (.istore_n 1, 1) := by decide +kernel
theorem dXM_depthOf_46 : decode cXM_depthOf 46 = .ok (.iinc 2 1, 3) := by decide +kernel
theorem dXM_depthOf_49 : decode cXM_depthOf 49 = .ok (.goto (-45), 3) := by decide +kernel
theorem dXM_depthOf_52 : decode cXM_depthOf 52 = .ok (.iload_n 1, 1) := by decide +kernel
theorem dXM_depthOf_53 : decode cXM_depthOf 53 = .ok (.iconst 1, 1) := by decide +kernel
theorem dXM_depthOf_54 : decode cXM_depthOf 54 = .ok (.iadd, 1) := by decide +kernel
theorem dXM_depthOf_55 : decode cXM_depthOf 55 = .ok (.ireturn, 1) := by decide +kernel
abbrev cXM_enter : ByteArray := prog_10_method_13_code
def yXM_enter : MethodName := ⟨RXM, "enter", "()I"⟩
set_option maxRecDepth 100000 in
theorem qXM_enter : Cond.code yXM_enter cXM_enter 3 (some .int) ∈ lg_tbl := fx_c 764 rfl
theorem hdXM_enter : yXM_enter.cls = RXM ∧ yXM_enter.cls ≠ "java/lang/invoke/MethodHandle" ∧ yXM_enter.cls ≠ "java/lang/invoke/VarHandle" ∧ (parseMethodDescriptor yXM_enter.desc).map (fun d => d.parameters.length) = some 0 := by decide +kernel
theorem dXM_enter_0 : decode cXM_enter 0 = .ok (.aload_n 0, 1) := by decide +kernel
theorem dXM_enter_1 : decode cXM_enter 1 = .ok (.getfield 76, 3) := by decide +kernel
theorem dXM_enter_4 : decode cXM_enter 4 = .ok (.istore_n 1, 1) := by decide +kernel
theorem dXM_enter_5 : decode cXM_enter 5 = .ok (.aload_n 0, 1) := by decide +kernel
theorem dXM_enter_6 : decode cXM_enter 6 = .ok (.getfield 7, 3) := by decide +kernel
theorem dXM_enter_9 : decode cXM_enter 9 = .ok (.iload_n 1, 1) := by decide +kernel
theorem dXM_enter_10 : decode cXM_enter 10 = .ok (.aload_n 0, 1) := by decide +kernel
theorem dXM_enter_11 : decode cXM_enter 11 = .ok (.getfield 80, 3) := by decide +kernel
theorem dXM_enter_14 : decode cXM_enter 14 = .ok (.lastore, 1) := by decide +kernel
theorem dXM_enter_15 : decode cXM_enter 15 = .ok (.aload_n 0, 1) := by decide +kernel
theorem dXM_enter_16 : decode cXM_enter 16 = .ok (.getfield 13, 3) := by decide +kernel
theorem dXM_enter_19 : decode cXM_enter 19 = .ok (.iload_n 1, 1) := by decide +kernel
theorem dXM_enter_20 : decode cXM_enter 20 = .ok (.aload_n 0, 1) := by decide +kernel
theorem dXM_enter_21 : decode cXM_enter 21 = .ok (.getfield 59, 3) := by decide +kernel
theorem dXM_enter_24 : decode cXM_enter 24 = .ok (.iconst 0, 1) := by decide +kernel
theorem dXM_enter_25 : decode cXM_enter 25 = .ok (.iaload, 1) := by decide +kernel
theorem dXM_enter_26 : decode cXM_enter 26 = .ok (.iastore, 1) := by decide +kernel
theorem dXM_enter_27 : decode cXM_enter 27 = .ok (.aload_n 0, 1) := by decide +kernel
theorem dXM_enter_28 : decode cXM_enter 28 = .ok (.getfield 17, 3) := by decide +kernel
theorem dXM_enter_31 : decode cXM_enter 31 = .ok (.iload_n 1, 1) := by decide +kernel
theorem dXM_enter_32 : decode cXM_enter 32 = .ok (.aload_n 0, 1) := by decide +kernel
theorem dXM_enter_33 : decode cXM_enter 33 = .ok (.getfield 59, 3) := by decide +kernel
theorem dXM_enter_36 : decode cXM_enter 36 = .ok (.iconst 1, 1) := by decide +kernel
theorem dXM_enter_37 : decode cXM_enter 37 = .ok (.iaload, 1) := by decide +kernel
theorem dXM_enter_38 : decode cXM_enter 38 = .ok (.iastore, 1) := by decide +kernel
theorem dXM_enter_39 : decode cXM_enter 39 = .ok (.aload_n 0, 1) := by decide +kernel
theorem dXM_enter_40 : decode cXM_enter 40 = .ok (.getfield 20, 3) := by decide +kernel
theorem dXM_enter_43 : decode cXM_enter 43 = .ok (.iload_n 1, 1) := by decide +kernel
theorem dXM_enter_44 : decode cXM_enter 44 = .ok (.aload_n 0, 1) := by decide +kernel
theorem dXM_enter_45 : decode cXM_enter 45 = .ok (.getfield 59, 3) := by decide +kernel
theorem dXM_enter_48 : decode cXM_enter 48 = .ok (.iconst 2, 1) := by decide +kernel
theorem dXM_enter_49 : decode cXM_enter 49 = .ok (.iaload, 1) := by decide +kernel
theorem dXM_enter_50 : decode cXM_enter 50 = .ok (.iastore, 1) := by decide +kernel
theorem dXM_enter_51 : decode cXM_enter 51 = .ok (.aload_n 0, 1) := by decide +kernel
theorem dXM_enter_52 : decode cXM_enter 52 = .ok (.getfield 23, 3) := by decide +kernel
theorem dXM_enter_55 : decode cXM_enter 55 = .ok (.iload_n 1, 1) := by decide +kernel
theorem dXM_enter_56 : decode cXM_enter 56 = .ok (.aload_n 0, 1) := by decide +kernel
theorem dXM_enter_57 : decode cXM_enter 57 = .ok (.getfield 59, 3) := by decide +kernel
theorem dXM_enter_60 : decode cXM_enter 60 = .ok (.iconst 3, 1) := by decide +kernel
theorem dXM_enter_61 : decode cXM_enter 61 = .ok (.iaload, 1) := by decide +kernel
theorem dXM_enter_62 : decode cXM_enter 62 = .ok (.iastore, 1) := by decide +kernel
theorem dXM_enter_63 : decode cXM_enter 63 = .ok (.aload_n 0, 1) := by decide +kernel
theorem dXM_enter_64 : decode cXM_enter 64 = .ok (.getfield 26, 3) := by decide +kernel
theorem dXM_enter_67 : decode cXM_enter 67 = .ok (.iload_n 1, 1) := by decide +kernel
theorem dXM_enter_68 : decode cXM_enter 68 = .ok (.aload_n 0, 1) := by decide +kernel
theorem dXM_enter_69 : decode cXM_enter 69 = .ok (.getfield 59, 3) := by decide +kernel
theorem dXM_enter_72 : decode cXM_enter 72 = .ok (.iconst 4, 1) := by decide +kernel
theorem dXM_enter_73 : decode cXM_enter 73 = .ok (.iaload, 1) := by decide +kernel
theorem dXM_enter_74 : decode cXM_enter 74 = .ok (.iastore, 1) := by decide +kernel
theorem dXM_enter_75 : decode cXM_enter 75 = .ok (.iconst 0, 1) := by decide +kernel
theorem dXM_enter_76 : decode cXM_enter 76 = .ok (.istore_n 2, 1) := by decide +kernel
theorem dXM_enter_77 : decode cXM_enter 77 = .ok (.iload_n 2, 1) := by decide +kernel
theorem dXM_enter_78 : decode cXM_enter 78 = .ok (.iconst 4, 1) := by decide +kernel
theorem dXM_enter_79 : decode cXM_enter 79 = .ok (.if_icmp .ge 39, 3) := by decide +kernel
theorem dXM_enter_82 : decode cXM_enter 82 = .ok (.aload_n 0, 1) := by decide +kernel
theorem dXM_enter_83 : decode cXM_enter 83 = .ok (.getfield 29, 3) := by decide +kernel
theorem dXM_enter_86 : decode cXM_enter 86 = .ok (.iconst 4, 1) := by decide +kernel
theorem dXM_enter_87 : decode cXM_enter 87 = .ok (.iload_n 1, 1) := by decide +kernel
theorem dXM_enter_88 : decode cXM_enter 88 = .ok (.imul, 1) := by decide +kernel
theorem dXM_enter_89 : decode cXM_enter 89 = .ok (.iload_n 2, 1) := by decide +kernel
theorem dXM_enter_90 : decode cXM_enter 90 = .ok (.iadd, 1) := by decide +kernel
theorem dXM_enter_91 : decode cXM_enter 91 = .ok (.iload_n 2, 1) := by decide +kernel
theorem dXM_enter_92 : decode cXM_enter 92 = .ok (.aload_n 0, 1) := by decide +kernel
theorem dXM_enter_93 : decode cXM_enter 93 = .ok (.getfield 59, 3) := by decide +kernel
theorem dXM_enter_96 : decode cXM_enter 96 = .ok (.iconst 4, 1) := by decide +kernel
theorem dXM_enter_97 : decode cXM_enter 97 = .ok (.iaload, 1) := by decide +kernel
theorem dXM_enter_98 : decode cXM_enter 98 = .ok (.if_icmp .ge 12, 3) := by decide +kernel
theorem dXM_enter_101 : decode cXM_enter 101 = .ok (.aload_n 0, 1) := by decide +kernel
theorem dXM_enter_102 : decode cXM_enter 102 = .ok (.getfield 62, 3) := by decide +kernel
theorem dXM_enter_105 : decode cXM_enter 105 = .ok (.iload_n 2, 1) := by decide +kernel
theorem dXM_enter_106 : decode cXM_enter 106 = .ok (.laload, 1) := by decide +kernel
theorem dXM_enter_107 : decode cXM_enter 107 = .ok (.goto 4, 3) := by decide +kernel
theorem dXM_enter_110 : decode cXM_enter 110 = .ok (.lconst 0, 1) := by decide +kernel
theorem dXM_enter_111 : decode cXM_enter 111 = .ok (.lastore, 1) := by decide +kernel
theorem dXM_enter_112 : decode cXM_enter 112 = .ok (.iinc 2 1, 3) := by decide +kernel
theorem dXM_enter_115 : decode cXM_enter 115 = .ok (.goto (-38), 3) := by decide +kernel
theorem dXM_enter_118 : decode cXM_enter 118 = .ok (.aload_n 0, 1) := by decide +kernel
theorem dXM_enter_119 : decode cXM_enter 119 = .ok (.getfield 32, 3) := by decide +kernel
theorem dXM_enter_122 : decode cXM_enter 122 = .ok (.iload_n 1, 1) := by decide +kernel
theorem dXM_enter_123 : decode cXM_enter 123 = .ok (.aload_n 0, 1) := by decide +kernel
theorem dXM_enter_124 : decode cXM_enter 124 = .ok (.invokevirtual 92, 3) := by decide +kernel
theorem dXM_enter_127 : decode cXM_enter 127 = .ok (.lastore, 1) := by decide +kernel
theorem dXM_enter_128 : decode cXM_enter 128 = .ok (.aload_n 0, 1) := by decide +kernel
theorem dXM_enter_129 : decode cXM_enter 129 = .ok (.getfield 35, 3) := by decide +kernel
theorem dXM_enter_132 : decode cXM_enter 132 = .ok (.iload_n 1, 1) := by decide +kernel
theorem dXM_enter_133 : decode cXM_enter 133 = .ok (.aload_n 0, 1) := by decide +kernel
theorem dXM_enter_134 : decode cXM_enter 134 = .ok (.invokevirtual 96, 3) := by decide +kernel
theorem dXM_enter_137 : decode cXM_enter 137 = .ok (.iastore, 1) := by decide +kernel
theorem dXM_enter_138 : decode cXM_enter 138 = .ok (.aload_n 0, 1) := by decide +kernel
theorem dXM_enter_139 : decode cXM_enter 139 = .ok (.dup, 1) := by decide +kernel
theorem dXM_enter_140 : decode cXM_enter 140 = .ok (.getfield 76, 3) := by decide +kernel
theorem dXM_enter_143 : decode cXM_enter 143 = .ok (.iconst 1, 1) := by decide +kernel
theorem dXM_enter_144 : decode cXM_enter 144 = .ok (.iadd, 1) := by decide +kernel
theorem dXM_enter_145 : decode cXM_enter 145 = .ok (.putfield 76, 3) := by decide +kernel
theorem dXM_enter_148 : decode cXM_enter 148 = .ok (.iload_n 1, 1) := by decide +kernel
theorem dXM_enter_149 : decode cXM_enter 149 = .ok (.ireturn, 1) := by decide +kernel
abbrev cXM_leave : ByteArray := prog_10_method_15_code
def yXM_leave : MethodName := ⟨RXM, "leave", "(II)V"⟩
set_option maxRecDepth 100000 in
theorem qXM_leave : Cond.code yXM_leave cXM_leave 5 none ∈ lg_tbl := fx_c 752 rfl
theorem hdXM_leave : yXM_leave.cls = RXM ∧ yXM_leave.cls ≠ "java/lang/invoke/MethodHandle" ∧ yXM_leave.cls ≠ "java/lang/invoke/VarHandle" ∧ (parseMethodDescriptor yXM_leave.desc).map (fun d => d.parameters.length) = some 2 := by decide +kernel
theorem dXM_leave_0 : decode cXM_leave 0 = .ok (.aload_n 0, 1) := by decide +kernel
theorem dXM_leave_1 : decode cXM_leave 1 = .ok (.getfield 41, 3) := by decide +kernel
theorem dXM_leave_4 : decode cXM_leave 4 = .ok (.iload_n 1, 1) := by decide +kernel
theorem dXM_leave_5 : decode cXM_leave 5 = .ok (.dup2, 1) := by decide +kernel
theorem dXM_leave_6 : decode cXM_leave 6 = .ok (.iaload, 1) := by decide +kernel
theorem dXM_leave_7 : decode cXM_leave 7 = .ok (.iconst 1, 1) := by decide +kernel
theorem dXM_leave_8 : decode cXM_leave 8 = .ok (.isub, 1) := by decide +kernel
theorem dXM_leave_9 : decode cXM_leave 9 = .ok (.iastore, 1) := by decide +kernel
theorem dXM_leave_10 : decode cXM_leave 10 = .ok (.bipush 6, 2) := by decide +kernel
theorem dXM_leave_12 : decode cXM_leave 12 = .ok (.iload_n 1, 1) := by decide +kernel
theorem dXM_leave_13 : decode cXM_leave 13 = .ok (.imul, 1) := by decide +kernel
theorem dXM_leave_14 : decode cXM_leave 14 = .ok (.iload_n 2, 1) := by decide +kernel
theorem dXM_leave_15 : decode cXM_leave 15 = .ok (.iadd, 1) := by decide +kernel
theorem dXM_leave_16 : decode cXM_leave 16 = .ok (.istore_n 3, 1) := by decide +kernel
theorem dXM_leave_17 : decode cXM_leave 17 = .ok (.iload_n 3, 1) := by decide +kernel
theorem dXM_leave_18 : decode cXM_leave 18 = .ok (.bipush 6, 2) := by decide +kernel
theorem dXM_leave_20 : decode cXM_leave 20 = .ok (.iload_n 1, 1) := by decide +kernel
theorem dXM_leave_21 : decode cXM_leave 21 = .ok (.imul, 1) := by decide +kernel
theorem dXM_leave_22 : decode cXM_leave 22 = .ok (.aload_n 0, 1) := by decide +kernel
theorem dXM_leave_23 : decode cXM_leave 23 = .ok (.getfield 41, 3) := by decide +kernel
theorem dXM_leave_26 : decode cXM_leave 26 = .ok (.iload_n 1, 1) := by decide +kernel
theorem dXM_leave_27 : decode cXM_leave 27 = .ok (.iaload, 1) := by decide +kernel
theorem dXM_leave_28 : decode cXM_leave 28 = .ok (.iadd, 1) := by decide +kernel
theorem dXM_leave_29 : decode cXM_leave 29 = .ok (.if_icmp .ge 101, 3) := by decide +kernel
theorem dXM_leave_32 : decode cXM_leave 32 = .ok (.aload_n 0, 1) := by decide +kernel
theorem dXM_leave_33 : decode cXM_leave 33 = .ok (.getfield 44, 3) := by decide +kernel
theorem dXM_leave_36 : decode cXM_leave 36 = .ok (.iload_n 3, 1) := by decide +kernel
theorem dXM_leave_37 : decode cXM_leave 37 = .ok (.aload_n 0, 1) := by decide +kernel
theorem dXM_leave_38 : decode cXM_leave 38 = .ok (.getfield 44, 3) := by decide +kernel
theorem dXM_leave_41 : decode cXM_leave 41 = .ok (.iload_n 3, 1) := by decide +kernel
theorem dXM_leave_42 : decode cXM_leave 42 = .ok (.iconst 1, 1) := by decide +kernel
theorem dXM_leave_43 : decode cXM_leave 43 = .ok (.iadd, 1) := by decide +kernel
theorem dXM_leave_44 : decode cXM_leave 44 = .ok (.laload, 1) := by decide +kernel
theorem dXM_leave_45 : decode cXM_leave 45 = .ok (.lastore, 1) := by decide +kernel
theorem dXM_leave_46 : decode cXM_leave 46 = .ok (.iconst 0, 1) := by decide +kernel
theorem dXM_leave_47 : decode cXM_leave 47 = .ok (.istore 4, 2) := by decide +kernel
theorem dXM_leave_49 : decode cXM_leave 49 = .ok (.iload 4, 2) := by decide +kernel
theorem dXM_leave_51 : decode cXM_leave 51 = .ok (.iconst 5, 1) := by decide +kernel
theorem dXM_leave_52 : decode cXM_leave 52 = .ok (.if_icmp .ge 33, 3) := by decide +kernel
theorem dXM_leave_55 : decode cXM_leave 55 = .ok (.aload_n 0, 1) := by decide +kernel
theorem dXM_leave_56 : decode cXM_leave 56 = .ok (.getfield 47, 3) := by decide +kernel
theorem dXM_leave_59 : decode cXM_leave 59 = .ok (.iconst 5, 1) := by decide +kernel
theorem dXM_leave_60 : decode cXM_leave 60 = .ok (.iload_n 3, 1) := by decide +kernel
theorem dXM_leave_61 : decode cXM_leave 61 = .ok (.imul, 1) := by decide +kernel
theorem dXM_leave_62 : decode cXM_leave 62 = .ok (.iload 4, 2) := by decide +kernel
theorem dXM_leave_64 : decode cXM_leave 64 = .ok (.iadd, 1) := by decide +kernel
theorem dXM_leave_65 : decode cXM_leave 65 = .ok (.aload_n 0, 1) := by decide +kernel
theorem dXM_leave_66 : decode cXM_leave 66 = .ok (.getfield 47, 3) := by decide +kernel
theorem dXM_leave_69 : decode cXM_leave 69 = .ok (.iconst 5, 1) := by decide +kernel
theorem dXM_leave_70 : decode cXM_leave 70 = .ok (.iload_n 3, 1) := by decide +kernel
theorem dXM_leave_71 : decode cXM_leave 71 = .ok (.imul, 1) := by decide +kernel
theorem dXM_leave_72 : decode cXM_leave 72 = .ok (.iconst 5, 1) := by decide +kernel
theorem dXM_leave_73 : decode cXM_leave 73 = .ok (.iadd, 1) := by decide +kernel
theorem dXM_leave_74 : decode cXM_leave 74 = .ok (.iload 4, 2) := by decide +kernel
theorem dXM_leave_76 : decode cXM_leave 76 = .ok (.iadd, 1) := by decide +kernel
theorem dXM_leave_77 : decode cXM_leave 77 = .ok (.iaload, 1) := by decide +kernel
theorem dXM_leave_78 : decode cXM_leave 78 = .ok (.iastore, 1) := by decide +kernel
theorem dXM_leave_79 : decode cXM_leave 79 = .ok (.iinc 4 1, 3) := by decide +kernel
theorem dXM_leave_82 : decode cXM_leave 82 = .ok (.goto (-33), 3) := by decide +kernel
theorem dXM_leave_85 : decode cXM_leave 85 = .ok (.iconst 0, 1) := by decide +kernel
theorem dXM_leave_86 : decode cXM_leave 86 = .ok (.istore 4, 2) := by decide +kernel
theorem dXM_leave_88 : decode cXM_leave 88 = .ok (.iload 4, 2) := by decide +kernel
theorem dXM_leave_90 : decode cXM_leave 90 = .ok (.iconst 4, 1) := by decide +kernel
theorem dXM_leave_91 : decode cXM_leave 91 = .ok (.if_icmp .ge 33, 3) := by decide +kernel
theorem dXM_leave_94 : decode cXM_leave 94 = .ok (.aload_n 0, 1) := by decide +kernel
theorem dXM_leave_95 : decode cXM_leave 95 = .ok (.getfield 50, 3) := by decide +kernel
theorem dXM_leave_98 : decode cXM_leave 98 = .ok (.iconst 4, 1) := by decide +kernel
theorem dXM_leave_99 : decode cXM_leave 99 = .ok (.iload_n 3, 1) := by decide +kernel
theorem dXM_leave_100 : decode cXM_leave 100 = .ok (.imul, 1) := by decide +kernel
theorem dXM_leave_101 : decode cXM_leave 101 = .ok (.iload 4, 2) := by decide +kernel
theorem dXM_leave_103 : decode cXM_leave 103 = .ok (.iadd, 1) := by decide +kernel
theorem dXM_leave_104 : decode cXM_leave 104 = .ok (.aload_n 0, 1) := by decide +kernel
theorem dXM_leave_105 : decode cXM_leave 105 = .ok (.getfield 50, 3) := by decide +kernel
theorem dXM_leave_108 : decode cXM_leave 108 = .ok (.iconst 4, 1) := by decide +kernel
theorem dXM_leave_109 : decode cXM_leave 109 = .ok (.iload_n 3, 1) := by decide +kernel
theorem dXM_leave_110 : decode cXM_leave 110 = .ok (.imul, 1) := by decide +kernel
theorem dXM_leave_111 : decode cXM_leave 111 = .ok (.iconst 4, 1) := by decide +kernel
theorem dXM_leave_112 : decode cXM_leave 112 = .ok (.iadd, 1) := by decide +kernel
theorem dXM_leave_113 : decode cXM_leave 113 = .ok (.iload 4, 2) := by decide +kernel
theorem dXM_leave_115 : decode cXM_leave 115 = .ok (.iadd, 1) := by decide +kernel
theorem dXM_leave_116 : decode cXM_leave 116 = .ok (.laload, 1) := by decide +kernel
theorem dXM_leave_117 : decode cXM_leave 117 = .ok (.lastore, 1) := by decide +kernel
theorem dXM_leave_118 : decode cXM_leave 118 = .ok (.iinc 4 1, 3) := by decide +kernel
theorem dXM_leave_121 : decode cXM_leave 121 = .ok (.goto (-33), 3) := by decide +kernel
theorem dXM_leave_124 : decode cXM_leave 124 = .ok (.iinc 3 1, 3) := by decide +kernel
theorem dXM_leave_127 : decode cXM_leave 127 = .ok (.goto (-110), 3) := by decide +kernel
theorem dXM_leave_130 : decode cXM_leave 130 = .ok (.return_, 1) := by decide +kernel
abbrev cXM_waitAt : ByteArray := prog_10_method_14_code
def yXM_waitAt : MethodName := ⟨RXM, "waitAt", "(I)V"⟩
set_option maxRecDepth 100000 in
theorem qXM_waitAt : Cond.code yXM_waitAt cXM_waitAt 5 none ∈ lg_tbl := fx_c 748 rfl
theorem hdXM_waitAt : yXM_waitAt.cls = RXM ∧ yXM_waitAt.cls ≠ "java/lang/invoke/MethodHandle" ∧ yXM_waitAt.cls ≠ "java/lang/invoke/VarHandle" ∧ (parseMethodDescriptor yXM_waitAt.desc).map (fun d => d.parameters.length) = some 1 := by decide +kernel
theorem dXM_waitAt_0 : decode cXM_waitAt 0 = .ok (.iconst 0, 1) := by decide +kernel
theorem dXM_waitAt_1 : decode cXM_waitAt 1 = .ok (.istore_n 2, 1) := by decide +kernel
theorem dXM_waitAt_2 : decode cXM_waitAt 2 = .ok (.iconst 0, 1) := by decide +kernel
theorem dXM_waitAt_3 : decode cXM_waitAt 3 = .ok (.istore_n 3, 1) := by decide +kernel
theorem dXM_waitAt_4 : decode cXM_waitAt 4 = .ok (.iload_n 3, 1) := by decide +kernel
theorem dXM_waitAt_5 : decode cXM_waitAt 5 = .ok (.aload_n 0, 1) := by decide +kernel
theorem dXM_waitAt_6 : decode cXM_waitAt 6 = .ok (.getfield 41, 3) := by decide +kernel
theorem dXM_waitAt_9 : decode cXM_waitAt 9 = .ok (.iload_n 1, 1) := by decide +kernel
theorem dXM_waitAt_10 : decode cXM_waitAt 10 = .ok (.iaload, 1) := by decide +kernel
theorem dXM_waitAt_11 : decode cXM_waitAt 11 = .ok (.if_icmp .ge 38, 3) := by decide +kernel
theorem dXM_waitAt_14 : decode cXM_waitAt 14 = .ok (.iload_n 2, 1) := by decide +kernel
theorem dXM_waitAt_15 : decode cXM_waitAt 15 = .ok (.ifCond .ne 22, 3) := by decide +kernel
theorem dXM_waitAt_18 : decode cXM_waitAt 18 = .ok (.aload_n 0, 1) := by decide +kernel
theorem dXM_waitAt_19 : decode cXM_waitAt 19 = .ok (.getfield 44, 3) := by decide +kernel
theorem dXM_waitAt_22 : decode cXM_waitAt 22 = .ok (.bipush 6, 2) := by decide +kernel
theorem dXM_waitAt_24 : decode cXM_waitAt 24 = .ok (.iload_n 1, 1) := by decide +kernel
theorem dXM_waitAt_25 : decode cXM_waitAt 25 = .ok (.imul, 1) := by decide +kernel
theorem dXM_waitAt_26 : decode cXM_waitAt 26 = .ok (.iload_n 3, 1) := by decide +kernel
theorem dXM_waitAt_27 : decode cXM_waitAt 27 = .ok (.iadd, 1) := by decide +kernel
theorem dXM_waitAt_28 : decode cXM_waitAt 28 = .ok (.laload, 1) := by decide +kernel
theorem dXM_waitAt_29 : decode cXM_waitAt 29 = .ok (.aload_n 0, 1) := by decide +kernel
theorem dXM_waitAt_30 : decode cXM_waitAt 30 = .ok (.getfield 80, 3) := by decide +kernel
theorem dXM_waitAt_33 : decode cXM_waitAt 33 = .ok (.lcmp, 1) := by decide +kernel
theorem dXM_waitAt_34 : decode cXM_waitAt 34 = .ok (.ifCond .ne 7, 3) := by decide +kernel
theorem dXM_waitAt_37 : decode cXM_waitAt 37 = .ok (.iconst 1, 1) := by decide +kernel
theorem dXM_waitAt_38 : decode cXM_waitAt 38 = .ok (.goto 4, 3) := by decide +kernel
theorem dXM_waitAt_41 : decode cXM_waitAt 41 = .ok (.iconst 0, 1) := by decide +kernel
theorem dXM_waitAt_42 : decode cXM_waitAt 42 = .ok (.istore_n 2, 1) := by decide +kernel
theorem dXM_waitAt_43 : decode cXM_waitAt 43 = .ok (.iinc 3 1, 3) := by decide +kernel
theorem dXM_waitAt_46 : decode cXM_waitAt 46 = .ok (.goto (-42), 3) := by decide +kernel
theorem dXM_waitAt_49 : decode cXM_waitAt 49 = .ok (.iload_n 2, 1) := by decide +kernel
theorem dXM_waitAt_50 : decode cXM_waitAt 50 = .ok (.ifCond .eq 4, 3) := by decide +kernel
theorem dXM_waitAt_53 : decode cXM_waitAt 53 = .ok (.return_, 1) := by decide +kernel
theorem dXM_waitAt_54 : decode cXM_waitAt 54 = .ok (.bipush 6, 2) := by decide +kernel
theorem dXM_waitAt_56 : decode cXM_waitAt 56 = .ok (.iload_n 1, 1) := by decide +kernel
theorem dXM_waitAt_57 : decode cXM_waitAt 57 = .ok (.imul, 1) := by decide +kernel
theorem dXM_waitAt_58 : decode cXM_waitAt 58 = .ok (.aload_n 0, 1) := by decide +kernel
theorem dXM_waitAt_59 : decode cXM_waitAt 59 = .ok (.getfield 41, 3) := by decide +kernel
theorem dXM_waitAt_62 : decode cXM_waitAt 62 = .ok (.iload_n 1, 1) := by decide +kernel
theorem dXM_waitAt_63 : decode cXM_waitAt 63 = .ok (.iaload, 1) := by decide +kernel
theorem dXM_waitAt_64 : decode cXM_waitAt 64 = .ok (.iadd, 1) := by decide +kernel
theorem dXM_waitAt_65 : decode cXM_waitAt 65 = .ok (.istore_n 3, 1) := by decide +kernel
theorem dXM_waitAt_66 : decode cXM_waitAt 66 = .ok (.aload_n 0, 1) := by decide +kernel
theorem dXM_waitAt_67 : decode cXM_waitAt 67 = .ok (.getfield 44, 3) := by decide +kernel
theorem dXM_waitAt_70 : decode cXM_waitAt 70 = .ok (.iload_n 3, 1) := by decide +kernel
theorem dXM_waitAt_71 : decode cXM_waitAt 71 = .ok (.aload_n 0, 1) := by decide +kernel
theorem dXM_waitAt_72 : decode cXM_waitAt 72 = .ok (.getfield 80, 3) := by decide +kernel
theorem dXM_waitAt_75 : decode cXM_waitAt 75 = .ok (.lastore, 1) := by decide +kernel
theorem dXM_waitAt_76 : decode cXM_waitAt 76 = .ok (.iconst 0, 1) := by decide +kernel
theorem dXM_waitAt_77 : decode cXM_waitAt 77 = .ok (.istore 4, 2) := by decide +kernel
theorem dXM_waitAt_79 : decode cXM_waitAt 79 = .ok (.iload 4, 2) := by decide +kernel
theorem dXM_waitAt_81 : decode cXM_waitAt 81 = .ok (.iconst 5, 1) := by decide +kernel
theorem dXM_waitAt_82 : decode cXM_waitAt 82 = .ok (.if_icmp .ge 27, 3) := by decide +kernel
theorem dXM_waitAt_85 : decode cXM_waitAt 85 = .ok (.aload_n 0, 1) := by decide +kernel
theorem dXM_waitAt_86 : decode cXM_waitAt 86 = .ok (.getfield 47, 3) := by decide +kernel
theorem dXM_waitAt_89 : decode cXM_waitAt 89 = .ok (.iconst 5, 1) := by decide +kernel
theorem dXM_waitAt_90 : decode cXM_waitAt 90 = .ok (.iload_n 3, 1) := by decide +kernel
theorem dXM_waitAt_91 : decode cXM_waitAt 91 = .ok (.imul, 1) := by decide +kernel
theorem dXM_waitAt_92 : decode cXM_waitAt 92 = .ok (.iload 4, 2) := by decide +kernel
theorem dXM_waitAt_94 : decode cXM_waitAt 94 = .ok (.iadd, 1) := by decide +kernel
theorem dXM_waitAt_95 : decode cXM_waitAt 95 = .ok (.aload_n 0, 1) := by decide +kernel
theorem dXM_waitAt_96 : decode cXM_waitAt 96 = .ok (.getfield 59, 3) := by decide +kernel
theorem dXM_waitAt_99 : decode cXM_waitAt 99 = .ok (.iload 4, 2) := by decide +kernel
theorem dXM_waitAt_101 : decode cXM_waitAt 101 = .ok (.iaload, 1) := by decide +kernel
theorem dXM_waitAt_102 : decode cXM_waitAt 102 = .ok (.iastore, 1) := by decide +kernel
theorem dXM_waitAt_103 : decode cXM_waitAt 103 = .ok (.iinc 4 1, 3) := by decide +kernel
theorem dXM_waitAt_106 : decode cXM_waitAt 106 = .ok (.goto (-27), 3) := by decide +kernel
theorem dXM_waitAt_109 : decode cXM_waitAt 109 = .ok (.iconst 0, 1) := by decide +kernel
theorem dXM_waitAt_110 : decode cXM_waitAt 110 = .ok (.istore 4, 2) := by decide +kernel
theorem dXM_waitAt_112 : decode cXM_waitAt 112 = .ok (.iload 4, 2) := by decide +kernel
theorem dXM_waitAt_114 : decode cXM_waitAt 114 = .ok (.iconst 4, 1) := by decide +kernel
theorem dXM_waitAt_115 : decode cXM_waitAt 115 = .ok (.if_icmp .ge 27, 3) := by decide +kernel
theorem dXM_waitAt_118 : decode cXM_waitAt 118 = .ok (.aload_n 0, 1) := by decide +kernel
theorem dXM_waitAt_119 : decode cXM_waitAt 119 = .ok (.getfield 50, 3) := by decide +kernel
theorem dXM_waitAt_122 : decode cXM_waitAt 122 = .ok (.iconst 4, 1) := by decide +kernel
theorem dXM_waitAt_123 : decode cXM_waitAt 123 = .ok (.iload_n 3, 1) := by decide +kernel
theorem dXM_waitAt_124 : decode cXM_waitAt 124 = .ok (.imul, 1) := by decide +kernel
theorem dXM_waitAt_125 : decode cXM_waitAt 125 = .ok (.iload 4, 2) := by decide +kernel
theorem dXM_waitAt_127 : decode cXM_waitAt 127 = .ok (.iadd, 1) := by decide +kernel
theorem dXM_waitAt_128 : decode cXM_waitAt 128 = .ok (.aload_n 0, 1) := by decide +kernel
theorem dXM_waitAt_129 : decode cXM_waitAt 129 = .ok (.getfield 62, 3) := by decide +kernel
theorem dXM_waitAt_132 : decode cXM_waitAt 132 = .ok (.iload 4, 2) := by decide +kernel
theorem dXM_waitAt_134 : decode cXM_waitAt 134 = .ok (.laload, 1) := by decide +kernel
theorem dXM_waitAt_135 : decode cXM_waitAt 135 = .ok (.lastore, 1) := by decide +kernel
theorem dXM_waitAt_136 : decode cXM_waitAt 136 = .ok (.iinc 4 1, 3) := by decide +kernel
theorem dXM_waitAt_139 : decode cXM_waitAt 139 = .ok (.goto (-27), 3) := by decide +kernel
theorem dXM_waitAt_142 : decode cXM_waitAt 142 = .ok (.aload_n 0, 1) := by decide +kernel
theorem dXM_waitAt_143 : decode cXM_waitAt 143 = .ok (.getfield 41, 3) := by decide +kernel
theorem dXM_waitAt_146 : decode cXM_waitAt 146 = .ok (.iload_n 1, 1) := by decide +kernel
theorem dXM_waitAt_147 : decode cXM_waitAt 147 = .ok (.dup2, 1) := by decide +kernel
theorem dXM_waitAt_148 : decode cXM_waitAt 148 = .ok (.iaload, 1) := by decide +kernel
theorem dXM_waitAt_149 : decode cXM_waitAt 149 = .ok (.iconst 1, 1) := by decide +kernel
theorem dXM_waitAt_150 : decode cXM_waitAt 150 = .ok (.iadd, 1) := by decide +kernel
theorem dXM_waitAt_151 : decode cXM_waitAt 151 = .ok (.iastore, 1) := by decide +kernel
theorem dXM_waitAt_152 : decode cXM_waitAt 152 = .ok (.aload_n 0, 1) := by decide +kernel
theorem dXM_waitAt_153 : decode cXM_waitAt 153 = .ok (.getfield 41, 3) := by decide +kernel
theorem dXM_waitAt_156 : decode cXM_waitAt 156 = .ok (.iload_n 1, 1) := by decide +kernel
theorem dXM_waitAt_157 : decode cXM_waitAt 157 = .ok (.iaload, 1) := by decide +kernel
theorem dXM_waitAt_158 : decode cXM_waitAt 158 = .ok (.bipush 6, 2) := by decide +kernel
theorem dXM_waitAt_160 : decode cXM_waitAt 160 = .ok (.if_icmp .ne 9, 3) := by decide +kernel
theorem dXM_waitAt_163 : decode cXM_waitAt 163 = .ok (.aload_n 0, 1) := by decide +kernel
theorem dXM_waitAt_164 : decode cXM_waitAt 164 = .ok (.iload_n 1, 1) := by decide +kernel
theorem dXM_waitAt_165 : decode cXM_waitAt 165 = .ok (.iconst 0, 1) := by decide +kernel
theorem dXM_waitAt_166 : decode cXM_waitAt 166 = .ok (.invokevirtual 100, 3) := by decide +kernel
theorem dXM_waitAt_169 : decode cXM_waitAt 169 = .ok (.return_, 1) := by decide +kernel
end
section
abbrev cXM_arrive : ByteArray := prog_10_method_16_code
def yXM_arrive : MethodName := ⟨RXM, "arrive", "(I)I"⟩
set_option maxRecDepth 100000 in
theorem qXM_arrive : Cond.code yXM_arrive cXM_arrive 4 (some .int) ∈ lg_tbl := fx_c 728 rfl
theorem hdXM_arrive : yXM_arrive.cls = RXM ∧ yXM_arrive.cls ≠ "java/lang/invoke/MethodHandle" ∧ yXM_arrive.cls ≠ "java/lang/invoke/VarHandle" ∧ (parseMethodDescriptor yXM_arrive.desc).map (fun d => d.parameters.length) = some 1 := by decide +kernel
theorem dXM_arrive_0 : decode cXM_arrive 0 = .ok (.aload_n 0, 1) := by decide +kernel
theorem dXM_arrive_1 : decode cXM_arrive 1 = .ok (.aload_n 0, 1) := by decide +kernel
theorem dXM_arrive_2 : decode cXM_arrive 2 = .ok (.getfield 80, 3) := by decide +kernel
theorem dXM_arrive_5 : decode cXM_arrive 5 = .ok (.invokevirtual 84, 3) := by decide +kernel
theorem dXM_arrive_8 : decode cXM_arrive 8 = .ok (.istore_n 2, 1) := by decide +kernel
theorem dXM_arrive_9 : decode cXM_arrive 9 = .ok (.aload_n 0, 1) := by decide +kernel
theorem dXM_arrive_10 : decode cXM_arrive 10 = .ok (.getfield 38, 3) := by decide +kernel
theorem dXM_arrive_13 : decode cXM_arrive 13 = .ok (.iload_n 1, 1) := by decide +kernel
theorem dXM_arrive_14 : decode cXM_arrive 14 = .ok (.laload, 1) := by decide +kernel
theorem dXM_arrive_15 : decode cXM_arrive 15 = .ok (.iload_n 2, 1) := by decide +kernel
theorem dXM_arrive_16 : decode cXM_arrive 16 = .ok (.invokestatic 88, 3) := by decide +kernel
theorem dXM_arrive_19 : decode cXM_arrive 19 = .ok (.ifCond .eq 5, 3) := by decide +kernel
theorem dXM_arrive_22 : decode cXM_arrive 22 = .ok (.iconst 0, 1) := by decide +kernel
theorem dXM_arrive_23 : decode cXM_arrive 23 = .ok (.ireturn, 1) := by decide +kernel
theorem dXM_arrive_24 : decode cXM_arrive 24 = .ok (.iload_n 2, 1) := by decide +kernel
theorem dXM_arrive_25 : decode cXM_arrive 25 = .ok (.ifCond .lt 8, 3) := by decide +kernel
theorem dXM_arrive_28 : decode cXM_arrive 28 = .ok (.aload_n 0, 1) := by decide +kernel
theorem dXM_arrive_29 : decode cXM_arrive 29 = .ok (.iload_n 2, 1) := by decide +kernel
theorem dXM_arrive_30 : decode cXM_arrive 30 = .ok (.invokevirtual 104, 3) := by decide +kernel
theorem dXM_arrive_33 : decode cXM_arrive 33 = .ok (.aload_n 0, 1) := by decide +kernel
theorem dXM_arrive_34 : decode cXM_arrive 34 = .ok (.invokevirtual 108, 3) := by decide +kernel
theorem dXM_arrive_37 : decode cXM_arrive 37 = .ok (.ifCond .ne 5, 3) := by decide +kernel
theorem dXM_arrive_40 : decode cXM_arrive 40 = .ok (.iconst 3, 1) := by decide +kernel
theorem dXM_arrive_41 : decode cXM_arrive 41 = .ok (.ireturn, 1) := by decide +kernel
theorem dXM_arrive_42 : decode cXM_arrive 42 = .ok (.aload_n 0, 1) := by decide +kernel
theorem dXM_arrive_43 : decode cXM_arrive 43 = .ok (.iload_n 1, 1) := by decide +kernel
theorem dXM_arrive_44 : decode cXM_arrive 44 = .ok (.invokevirtual 112, 3) := by decide +kernel
theorem dXM_arrive_47 : decode cXM_arrive 47 = .ok (.ifCond .ne 10, 3) := by decide +kernel
theorem dXM_arrive_50 : decode cXM_arrive 50 = .ok (.aload_n 0, 1) := by decide +kernel
theorem dXM_arrive_51 : decode cXM_arrive 51 = .ok (.iload_n 1, 1) := by decide +kernel
theorem dXM_arrive_52 : decode cXM_arrive 52 = .ok (.invokevirtual 116, 3) := by decide +kernel
theorem dXM_arrive_55 : decode cXM_arrive 55 = .ok (.iconst 2, 1) := by decide +kernel
theorem dXM_arrive_56 : decode cXM_arrive 56 = .ok (.ireturn, 1) := by decide +kernel
theorem dXM_arrive_57 : decode cXM_arrive 57 = .ok (.aload_n 0, 1) := by decide +kernel
theorem dXM_arrive_58 : decode cXM_arrive 58 = .ok (.invokevirtual 119, 3) := by decide +kernel
theorem dXM_arrive_61 : decode cXM_arrive 61 = .ok (.ifCond .eq 16, 3) := by decide +kernel
theorem dXM_arrive_64 : decode cXM_arrive 64 = .ok (.iload_n 2, 1) := by decide +kernel
theorem dXM_arrive_65 : decode cXM_arrive 65 = .ok (.ifCond .ge 14, 3) := by decide +kernel
theorem dXM_arrive_68 : decode cXM_arrive 68 = .ok (.aload_n 0, 1) := by decide +kernel
theorem dXM_arrive_69 : decode cXM_arrive 69 = .ok (.getfield 76, 3) := by decide +kernel
theorem dXM_arrive_72 : decode cXM_arrive 72 = .ok (.bipush 40, 2) := by decide +kernel
theorem dXM_arrive_74 : decode cXM_arrive 74 = .ok (.if_icmp .ne 5, 3) := by decide +kernel
theorem dXM_arrive_77 : decode cXM_arrive 77 = .ok (.iconst 3, 1) := by decide +kernel
theorem dXM_arrive_78 : decode cXM_arrive 78 = .ok (.ireturn, 1) := by decide +kernel
theorem dXM_arrive_79 : decode cXM_arrive 79 = .ok (.iload_n 2, 1) := by decide +kernel
theorem dXM_arrive_80 : decode cXM_arrive 80 = .ok (.ifCond .ge 10, 3) := by decide +kernel
theorem dXM_arrive_83 : decode cXM_arrive 83 = .ok (.aload_n 0, 1) := by decide +kernel
theorem dXM_arrive_84 : decode cXM_arrive 84 = .ok (.invokevirtual 122, 3) := by decide +kernel
theorem dXM_arrive_87 : decode cXM_arrive 87 = .ok (.goto 4, 3) := by decide +kernel
theorem dXM_arrive_90 : decode cXM_arrive 90 = .ok (.iload_n 2, 1) := by decide +kernel
theorem dXM_arrive_91 : decode cXM_arrive 91 = .ok (.istore_n 3, 1) := by decide +kernel
theorem dXM_arrive_92 : decode cXM_arrive 92 = .ok (.aload_n 0, 1) := by decide +kernel
theorem dXM_arrive_93 : decode cXM_arrive 93 = .ok (.getfield 38, 3) := by decide +kernel
theorem dXM_arrive_96 : decode cXM_arrive 96 = .ok (.iload_n 1, 1) := by decide +kernel
theorem dXM_arrive_97 : decode cXM_arrive 97 = .ok (.aload_n 0, 1) := by decide +kernel
theorem dXM_arrive_98 : decode cXM_arrive 98 = .ok (.getfield 38, 3) := by decide +kernel
theorem dXM_arrive_101 : decode cXM_arrive 101 = .ok (.iload_n 1, 1) := by decide +kernel
theorem dXM_arrive_102 : decode cXM_arrive 102 = .ok (.laload, 1) := by decide +kernel
theorem dXM_arrive_103 : decode cXM_arrive 103 = .ok (.lconst 1, 1) := by decide +kernel
theorem dXM_arrive_104 : decode cXM_arrive 104 = .ok (.iload_n 3, 1) := by decide +kernel
theorem dXM_arrive_105 : decode cXM_arrive 105 = .ok (.lshl, 1) := by decide +kernel
theorem dXM_arrive_106 : decode cXM_arrive 106 = .ok (.lor, 1) := by decide +kernel
theorem dXM_arrive_107 : decode cXM_arrive 107 = .ok (.lastore, 1) := by decide +kernel
theorem dXM_arrive_108 : decode cXM_arrive 108 = .ok (.iconst 1, 1) := by decide +kernel
theorem dXM_arrive_109 : decode cXM_arrive 109 = .ok (.ireturn, 1) := by decide +kernel
abbrev cXM_load : ByteArray := prog_10_method_17_code
def yXM_load : MethodName := ⟨RXM, "load", "(I)V"⟩
set_option maxRecDepth 100000 in
theorem qXM_load : Cond.code yXM_load cXM_load 3 none ∈ lg_tbl := fx_c 772 rfl
theorem hdXM_load : yXM_load.cls = RXM ∧ yXM_load.cls ≠ "java/lang/invoke/MethodHandle" ∧ yXM_load.cls ≠ "java/lang/invoke/VarHandle" ∧ (parseMethodDescriptor yXM_load.desc).map (fun d => d.parameters.length) = some 1 := by decide +kernel
theorem dXM_load_0 : decode cXM_load 0 = .ok (.aload_n 0, 1) := by decide +kernel
theorem dXM_load_1 : decode cXM_load 1 = .ok (.aload_n 0, 1) := by decide +kernel
theorem dXM_load_2 : decode cXM_load 2 = .ok (.getfield 44, 3) := by decide +kernel
theorem dXM_load_5 : decode cXM_load 5 = .ok (.iload_n 1, 1) := by decide +kernel
theorem dXM_load_6 : decode cXM_load 6 = .ok (.laload, 1) := by decide +kernel
theorem dXM_load_7 : decode cXM_load 7 = .ok (.putfield 80, 3) := by decide +kernel
theorem dXM_load_10 : decode cXM_load 10 = .ok (.iconst 0, 1) := by decide +kernel
theorem dXM_load_11 : decode cXM_load 11 = .ok (.istore_n 2, 1) := by decide +kernel
theorem dXM_load_12 : decode cXM_load 12 = .ok (.iload_n 2, 1) := by decide +kernel
theorem dXM_load_13 : decode cXM_load 13 = .ok (.iconst 5, 1) := by decide +kernel
theorem dXM_load_14 : decode cXM_load 14 = .ok (.if_icmp .ge 25, 3) := by decide +kernel
theorem dXM_load_17 : decode cXM_load 17 = .ok (.aload_n 0, 1) := by decide +kernel
theorem dXM_load_18 : decode cXM_load 18 = .ok (.getfield 59, 3) := by decide +kernel
theorem dXM_load_21 : decode cXM_load 21 = .ok (.iload_n 2, 1) := by decide +kernel
theorem dXM_load_22 : decode cXM_load 22 = .ok (.aload_n 0, 1) := by decide +kernel
theorem dXM_load_23 : decode cXM_load 23 = .ok (.getfield 47, 3) := by decide +kernel
theorem dXM_load_26 : decode cXM_load 26 = .ok (.iconst 5, 1) := by decide +kernel
theorem dXM_load_27 : decode cXM_load 27 = .ok (.iload_n 1, 1) := by decide +kernel
theorem dXM_load_28 : decode cXM_load 28 = .ok (.imul, 1) := by decide +kernel
theorem dXM_load_29 : decode cXM_load 29 = .ok (.iload_n 2, 1) := by decide +kernel
theorem dXM_load_30 : decode cXM_load 30 = .ok (.iadd, 1) := by decide +kernel
theorem dXM_load_31 : decode cXM_load 31 = .ok (.iaload, 1) := by decide +kernel
theorem dXM_load_32 : decode cXM_load 32 = .ok (.iastore, 1) := by decide +kernel
theorem dXM_load_33 : decode cXM_load 33 = .ok (.iinc 2 1, 3) := by decide +kernel
theorem dXM_load_36 : decode cXM_load 36 = .ok (.goto (-24), 3) := by decide +kernel
theorem dXM_load_39 : decode cXM_load 39 = .ok (.iconst 0, 1) := by decide +kernel
theorem dXM_load_40 : decode cXM_load 40 = .ok (.istore_n 2, 1) := by decide +kernel
theorem dXM_load_41 : decode cXM_load 41 = .ok (.iload_n 2, 1) := by decide +kernel
theorem dXM_load_42 : decode cXM_load 42 = .ok (.iconst 4, 1) := by decide +kernel
theorem dXM_load_43 : decode cXM_load 43 = .ok (.if_icmp .ge 25, 3) := by decide +kernel
theorem dXM_load_46 : decode cXM_load 46 = .ok (.aload_n 0, 1) := by decide +kernel
theorem dXM_load_47 : decode cXM_load 47 = .ok (.getfield 62, 3) := by decide +kernel
theorem dXM_load_50 : decode cXM_load 50 = .ok (.iload_n 2, 1) := by decide +kernel
theorem dXM_load_51 : decode cXM_load 51 = .ok (.aload_n 0, 1) := by decide +kernel
theorem dXM_load_52 : decode cXM_load 52 = .ok (.getfield 50, 3) := by decide +kernel
theorem dXM_load_55 : decode cXM_load 55 = .ok (.iconst 4, 1) := by decide +kernel
theorem dXM_load_56 : decode cXM_load 56 = .ok (.iload_n 1, 1) := by decide +kernel
theorem dXM_load_57 : decode cXM_load 57 = .ok (.imul, 1) := by decide +kernel
theorem dXM_load_58 : decode cXM_load 58 = .ok (.iload_n 2, 1) := by decide +kernel
theorem dXM_load_59 : decode cXM_load 59 = .ok (.iadd, 1) := by decide +kernel
theorem dXM_load_60 : decode cXM_load 60 = .ok (.laload, 1) := by decide +kernel
theorem dXM_load_61 : decode cXM_load 61 = .ok (.lastore, 1) := by decide +kernel
theorem dXM_load_62 : decode cXM_load 62 = .ok (.iinc 2 1, 3) := by decide +kernel
theorem dXM_load_65 : decode cXM_load 65 = .ok (.goto (-24), 3) := by decide +kernel
theorem dXM_load_68 : decode cXM_load 68 = .ok (.return_, 1) := by decide +kernel
abbrev cXM_come : ByteArray := prog_10_method_18_code
def yXM_come : MethodName := ⟨RXM, "come", "(I)I"⟩
set_option maxRecDepth 100000 in
theorem qXM_come : Cond.code yXM_come cXM_come 4 (some .int) ∈ lg_tbl := fx_c 724 rfl
theorem hdXM_come : yXM_come.cls = RXM ∧ yXM_come.cls ≠ "java/lang/invoke/MethodHandle" ∧ yXM_come.cls ≠ "java/lang/invoke/VarHandle" ∧ (parseMethodDescriptor yXM_come.desc).map (fun d => d.parameters.length) = some 1 := by decide +kernel
theorem dXM_come_0 : decode cXM_come 0 = .ok (.aload_n 0, 1) := by decide +kernel
theorem dXM_come_1 : decode cXM_come 1 = .ok (.iload_n 1, 1) := by decide +kernel
theorem dXM_come_2 : decode cXM_come 2 = .ok (.invokevirtual 125, 3) := by decide +kernel
theorem dXM_come_5 : decode cXM_come 5 = .ok (.istore_n 2, 1) := by decide +kernel
theorem dXM_come_6 : decode cXM_come 6 = .ok (.iconst 0, 1) := by decide +kernel
theorem dXM_come_7 : decode cXM_come 7 = .ok (.istore_n 3, 1) := by decide +kernel
theorem dXM_come_8 : decode cXM_come 8 = .ok (.iload_n 3, 1) := by decide +kernel
theorem dXM_come_9 : decode cXM_come 9 = .ok (.aload_n 0, 1) := by decide +kernel
theorem dXM_come_10 : decode cXM_come 10 = .ok (.getfield 41, 3) := by decide +kernel
theorem dXM_come_13 : decode cXM_come 13 = .ok (.iload_n 1, 1) := by decide +kernel
theorem dXM_come_14 : decode cXM_come 14 = .ok (.iaload, 1) := by decide +kernel
theorem dXM_come_15 : decode cXM_come 15 = .ok (.if_icmp .ge 44, 3) := by decide +kernel
theorem dXM_come_18 : decode cXM_come 18 = .ok (.aload_n 0, 1) := by decide +kernel
theorem dXM_come_19 : decode cXM_come 19 = .ok (.bipush 6, 2) := by decide +kernel
theorem dXM_come_21 : decode cXM_come 21 = .ok (.iload_n 1, 1) := by decide +kernel
theorem dXM_come_22 : decode cXM_come 22 = .ok (.imul, 1) := by decide +kernel
theorem dXM_come_23 : decode cXM_come 23 = .ok (.iload_n 3, 1) := by decide +kernel
theorem dXM_come_24 : decode cXM_come 24 = .ok (.iadd, 1) := by decide +kernel
theorem dXM_come_25 : decode cXM_come 25 = .ok (.invokevirtual 129, 3) := by decide +kernel
theorem dXM_come_28 : decode cXM_come 28 = .ok (.aload_n 0, 1) := by decide +kernel
theorem dXM_come_29 : decode cXM_come 29 = .ok (.iload_n 1, 1) := by decide +kernel
theorem dXM_come_30 : decode cXM_come 30 = .ok (.invokevirtual 112, 3) := by decide +kernel
theorem dXM_come_33 : decode cXM_come 33 = .ok (.ifCond .eq 20, 3) := by decide +kernel
theorem dXM_come_36 : decode cXM_come 36 = .ok (.aload_n 0, 1) := by decide +kernel
theorem dXM_come_37 : decode cXM_come 37 = .ok (.iload_n 1, 1) := by decide +kernel
theorem dXM_come_38 : decode cXM_come 38 = .ok (.iload_n 3, 1) := by decide +kernel
theorem dXM_come_39 : decode cXM_come 39 = .ok (.invokevirtual 100, 3) := by decide +kernel
theorem dXM_come_42 : decode cXM_come 42 = .ok (.aload_n 0, 1) := by decide +kernel
theorem dXM_come_43 : decode cXM_come 43 = .ok (.iload_n 1, 1) := by decide +kernel
theorem dXM_come_44 : decode cXM_come 44 = .ok (.invokevirtual 125, 3) := by decide +kernel
theorem dXM_come_47 : decode cXM_come 47 = .ok (.pop, 1) := by decide +kernel
theorem dXM_come_48 : decode cXM_come 48 = .ok (.iconst 0, 1) := by decide +kernel
theorem dXM_come_49 : decode cXM_come 49 = .ok (.istore_n 3, 1) := by decide +kernel
theorem dXM_come_50 : decode cXM_come 50 = .ok (.goto (-42), 3) := by decide +kernel
theorem dXM_come_53 : decode cXM_come 53 = .ok (.iinc 3 1, 3) := by decide +kernel
theorem dXM_come_56 : decode cXM_come 56 = .ok (.goto (-48), 3) := by decide +kernel
theorem dXM_come_59 : decode cXM_come 59 = .ok (.iload_n 2, 1) := by decide +kernel
theorem dXM_come_60 : decode cXM_come 60 = .ok (.ireturn, 1) := by decide +kernel
abbrev cXM_headSet : ByteArray := prog_10_method_24_code
def yXM_headSet : MethodName := ⟨RXM, "headSet", "(I)J"⟩
set_option maxRecDepth 100000 in
theorem qXM_headSet : Cond.code yXM_headSet cXM_headSet 5 (some .long) ∈ lg_tbl := fx_c 700 rfl
theorem hdXM_headSet : yXM_headSet.cls = RXM ∧ yXM_headSet.cls ≠ "java/lang/invoke/MethodHandle" ∧ yXM_headSet.cls ≠ "java/lang/invoke/VarHandle" ∧ (parseMethodDescriptor yXM_headSet.desc).map (fun d => d.parameters.length) = some 1 := by decide +kernel
theorem dXM_headSet_0 : decode cXM_headSet 0 = .ok (.lconst 0, 1) := by decide +kernel
theorem dXM_headSet_1 : decode cXM_headSet 1 = .ok (.lstore_n 2, 1) := by decide +kernel
theorem dXM_headSet_2 : decode cXM_headSet 2 = .ok (.iconst 0, 1) := by decide +kernel
theorem dXM_headSet_3 : decode cXM_headSet 3 = .ok (.istore 4, 2) := by decide +kernel
theorem dXM_headSet_5 : decode cXM_headSet 5 = .ok (.iload 4, 2) := by decide +kernel
theorem dXM_headSet_7 : decode cXM_headSet 7 = .ok (.aload_n 0, 1) := by decide +kernel
theorem dXM_headSet_8 : decode cXM_headSet 8 = .ok (.getfield 76, 3) := by decide +kernel
theorem dXM_headSet_11 : decode cXM_headSet 11 = .ok (.if_icmp .ge 37, 3) := by decide +kernel
theorem dXM_headSet_14 : decode cXM_headSet 14 = .ok (.aload_n 0, 1) := by decide +kernel
theorem dXM_headSet_15 : decode cXM_headSet 15 = .ok (.getfield 38, 3) := by decide +kernel
theorem dXM_headSet_18 : decode cXM_headSet 18 = .ok (.iload_n 1, 1) := by decide +kernel
theorem dXM_headSet_19 : decode cXM_headSet 19 = .ok (.laload, 1) := by decide +kernel
theorem dXM_headSet_20 : decode cXM_headSet 20 = .ok (.iload 4, 2) := by decide +kernel
theorem dXM_headSet_22 : decode cXM_headSet 22 = .ok (.invokestatic 88, 3) := by decide +kernel
theorem dXM_headSet_25 : decode cXM_headSet 25 = .ok (.ifCond .eq 15, 3) := by decide +kernel
theorem dXM_headSet_28 : decode cXM_headSet 28 = .ok (.lload_n 2, 1) := by decide +kernel
theorem dXM_headSet_29 : decode cXM_headSet 29 = .ok (.aload_n 0, 1) := by decide +kernel
theorem dXM_headSet_30 : decode cXM_headSet 30 = .ok (.getfield 32, 3) := by decide +kernel
theorem dXM_headSet_33 : decode cXM_headSet 33 = .ok (.iload 4, 2) := by decide +kernel
theorem dXM_headSet_35 : decode cXM_headSet 35 = .ok (.laload, 1) := by decide +kernel
theorem dXM_headSet_36 : decode cXM_headSet 36 = .ok (.lor, 1) := by decide +kernel
theorem dXM_headSet_37 : decode cXM_headSet 37 = .ok (.goto 4, 3) := by decide +kernel
theorem dXM_headSet_40 : decode cXM_headSet 40 = .ok (.lload_n 2, 1) := by decide +kernel
theorem dXM_headSet_41 : decode cXM_headSet 41 = .ok (.lstore_n 2, 1) := by decide +kernel
theorem dXM_headSet_42 : decode cXM_headSet 42 = .ok (.iinc 4 1, 3) := by decide +kernel
theorem dXM_headSet_45 : decode cXM_headSet 45 = .ok (.goto (-40), 3) := by decide +kernel
theorem dXM_headSet_48 : decode cXM_headSet 48 = .ok (.aload_n 0, 1) := by decide +kernel
theorem dXM_headSet_49 : decode cXM_headSet 49 = .ok (.getfield 38, 3) := by decide +kernel
theorem dXM_headSet_52 : decode cXM_headSet 52 = .ok (.iload_n 1, 1) := by decide +kernel
theorem dXM_headSet_53 : decode cXM_headSet 53 = .ok (.laload, 1) := by decide +kernel
theorem dXM_headSet_54 : decode cXM_headSet 54 = .ok (.lload_n 2, 1) := by decide +kernel
theorem dXM_headSet_55 : decode cXM_headSet 55 = .ok (.ldc2_w 151, 3) := by decide +kernel
theorem dXM_headSet_58 : decode cXM_headSet 58 = .ok (.lxor, 1) := by decide +kernel
theorem dXM_headSet_59 : decode cXM_headSet 59 = .ok (.land, 1) := by decide +kernel
theorem dXM_headSet_60 : decode cXM_headSet 60 = .ok (.lreturn, 1) := by decide +kernel
abbrev cXM_before : ByteArray := prog_10_method_29_code
def yXM_before : MethodName := ⟨RXM, "before", "(IIZ)Z"⟩
set_option maxRecDepth 100000 in
theorem qXM_before : Cond.code yXM_before cXM_before 4 (some .boolean) ∈ lg_tbl := fx_c 712 rfl
theorem hdXM_before : yXM_before.cls = RXM ∧ yXM_before.cls ≠ "java/lang/invoke/MethodHandle" ∧ yXM_before.cls ≠ "java/lang/invoke/VarHandle" ∧ (parseMethodDescriptor yXM_before.desc).map (fun d => d.parameters.length) = some 3 := by decide +kernel
theorem dXM_before_0 : decode cXM_before 0 = .ok (.iload_n 3, 1) := by decide +kernel
theorem dXM_before_1 : decode cXM_before 1 = .ok (.ifCond .eq 41, 3) := by decide +kernel
theorem dXM_before_4 : decode cXM_before 4 = .ok (.aload_n 0, 1) := by decide +kernel
theorem dXM_before_5 : decode cXM_before 5 = .ok (.getfield 35, 3) := by decide +kernel
theorem dXM_before_8 : decode cXM_before 8 = .ok (.iload_n 1, 1) := by decide +kernel
theorem dXM_before_9 : decode cXM_before 9 = .ok (.iaload, 1) := by decide +kernel
theorem dXM_before_10 : decode cXM_before 10 = .ok (.aload_n 0, 1) := by decide +kernel
theorem dXM_before_11 : decode cXM_before 11 = .ok (.getfield 35, 3) := by decide +kernel
theorem dXM_before_14 : decode cXM_before 14 = .ok (.iload_n 2, 1) := by decide +kernel
theorem dXM_before_15 : decode cXM_before 15 = .ok (.iaload, 1) := by decide +kernel
theorem dXM_before_16 : decode cXM_before 16 = .ok (.if_icmp .eq 26, 3) := by decide +kernel
theorem dXM_before_19 : decode cXM_before 19 = .ok (.aload_n 0, 1) := by decide +kernel
theorem dXM_before_20 : decode cXM_before 20 = .ok (.getfield 35, 3) := by decide +kernel
theorem dXM_before_23 : decode cXM_before 23 = .ok (.iload_n 1, 1) := by decide +kernel
theorem dXM_before_24 : decode cXM_before 24 = .ok (.iaload, 1) := by decide +kernel
theorem dXM_before_25 : decode cXM_before 25 = .ok (.aload_n 0, 1) := by decide +kernel
theorem dXM_before_26 : decode cXM_before 26 = .ok (.getfield 35, 3) := by decide +kernel
theorem dXM_before_29 : decode cXM_before 29 = .ok (.iload_n 2, 1) := by decide +kernel
theorem dXM_before_30 : decode cXM_before 30 = .ok (.iaload, 1) := by decide +kernel
theorem dXM_before_31 : decode cXM_before 31 = .ok (.if_icmp .ge 7, 3) := by decide +kernel
theorem dXM_before_34 : decode cXM_before 34 = .ok (.iconst 1, 1) := by decide +kernel
theorem dXM_before_35 : decode cXM_before 35 = .ok (.goto 28, 3) := by decide +kernel
theorem dXM_before_38 : decode cXM_before 38 = .ok (.iconst 0, 1) := by decide +kernel
theorem dXM_before_39 : decode cXM_before 39 = .ok (.goto 24, 3) := by decide +kernel
theorem dXM_before_42 : decode cXM_before 42 = .ok (.aload_n 0, 1) := by decide +kernel
theorem dXM_before_43 : decode cXM_before 43 = .ok (.getfield 7, 3) := by decide +kernel
theorem dXM_before_46 : decode cXM_before 46 = .ok (.iload_n 1, 1) := by decide +kernel
theorem dXM_before_47 : decode cXM_before 47 = .ok (.laload, 1) := by decide +kernel
theorem dXM_before_48 : decode cXM_before 48 = .ok (.aload_n 0, 1) := by decide +kernel
theorem dXM_before_49 : decode cXM_before 49 = .ok (.getfield 7, 3) := by decide +kernel
theorem dXM_before_52 : decode cXM_before 52 = .ok (.iload_n 2, 1) := by decide +kernel
theorem dXM_before_53 : decode cXM_before 53 = .ok (.laload, 1) := by decide +kernel
theorem dXM_before_54 : decode cXM_before 54 = .ok (.lcmp, 1) := by decide +kernel
theorem dXM_before_55 : decode cXM_before 55 = .ok (.ifCond .ge 7, 3) := by decide +kernel
theorem dXM_before_58 : decode cXM_before 58 = .ok (.iconst 1, 1) := by decide +kernel
theorem dXM_before_59 : decode cXM_before 59 = .ok (.goto 4, 3) := by decide +kernel
theorem dXM_before_62 : decode cXM_before 62 = .ok (.iconst 0, 1) := by decide +kernel
theorem dXM_before_63 : decode cXM_before 63 = .ok (.ireturn, 1) := by decide +kernel
abbrev cXM_sort : ByteArray := prog_10_method_30_code
def yXM_sort : MethodName := ⟨RXM, "sort", "(JZ)V"⟩
set_option maxRecDepth 100000 in
theorem qXM_sort : Cond.code yXM_sort cXM_sort 6 none ∈ lg_tbl := fx_c 708 rfl
theorem hdXM_sort : yXM_sort.cls = RXM ∧ yXM_sort.cls ≠ "java/lang/invoke/MethodHandle" ∧ yXM_sort.cls ≠ "java/lang/invoke/VarHandle" ∧ (parseMethodDescriptor yXM_sort.desc).map (fun d => d.parameters.length) = some 2 := by decide +kernel
theorem dXM_sort_0 : decode cXM_sort 0 = .ok (.aload_n 0, 1) := by decide +kernel
theorem dXM_sort_1 : decode cXM_sort 1 = .ok (.iconst 0, 1) := by decide +kernel
theorem dXM_sort_2 : decode cXM_sort 2 = .ok (.putfield 138, 3) := by decide +kernel
theorem dXM_sort_5 : decode cXM_sort 5 = .ok (.iconst 0, 1) := by decide +kernel
theorem dXM_sort_6 : decode cXM_sort 6 = .ok (.istore 4, 2) := by decide +kernel
theorem dXM_sort_8 : decode cXM_sort 8 = .ok (.iload 4, 2) := by decide +kernel
theorem dXM_sort_10 : decode cXM_sort 10 = .ok (.aload_n 0, 1) := by decide +kernel
theorem dXM_sort_11 : decode cXM_sort 11 = .ok (.getfield 76, 3) := by decide +kernel
theorem dXM_sort_14 : decode cXM_sort 14 = .ok (.if_icmp .ge 89, 3) := by decide +kernel
theorem dXM_sort_17 : decode cXM_sort 17 = .ok (.lload_n 1, 1) := by decide +kernel
theorem dXM_sort_18 : decode cXM_sort 18 = .ok (.iload 4, 2) := by decide +kernel
theorem dXM_sort_20 : decode cXM_sort 20 = .ok (.invokestatic 88, 3) := by decide +kernel
theorem dXM_sort_23 : decode cXM_sort 23 = .ok (.ifCond .eq 74, 3) := by decide +kernel
theorem dXM_sort_26 : decode cXM_sort 26 = .ok (.aload_n 0, 1) := by decide +kernel
theorem dXM_sort_27 : decode cXM_sort 27 = .ok (.getfield 138, 3) := by decide +kernel
theorem dXM_sort_30 : decode cXM_sort 30 = .ok (.istore 5, 2) := by decide +kernel
theorem dXM_sort_32 : decode cXM_sort 32 = .ok (.iload 5, 2) := by decide +kernel
theorem dXM_sort_34 : decode cXM_sort 34 = .ok (.ifCond .le 44, 3) := by decide +kernel
theorem dXM_sort_37 : decode cXM_sort 37 = .ok (.aload_n 0, 1) := by decide +kernel
theorem dXM_sort_38 : decode cXM_sort 38 = .ok (.iload 4, 2) := by decide +kernel
theorem dXM_sort_40 : decode cXM_sort 40 = .ok (.aload_n 0, 1) := by decide +kernel
theorem dXM_sort_41 : decode cXM_sort 41 = .ok (.getfield 65, 3) := by decide +kernel
theorem dXM_sort_44 : decode cXM_sort 44 = .ok (.iload 5, 2) := by decide +kernel
theorem dXM_sort_46 : decode cXM_sort 46 = .ok (.iconst 1, 1) := by decide +kernel
theorem dXM_sort_47 : decode cXM_sort 47 = .ok (.isub, 1) := by decide +kernel
theorem dXM_sort_48 : decode cXM_sort 48 = .ok (.iaload, 1) := by decide +kernel
theorem dXM_sort_49 : decode cXM_sort 49 = .ok (.iload_n 3, 1) := by decide +kernel
theorem dXM_sort_50 : decode cXM_sort 50 = .ok (.invokevirtual 169, 3) := by decide +kernel
theorem dXM_sort_53 : decode cXM_sort 53 = .ok (.ifCond .eq 25, 3) := by decide +kernel
theorem dXM_sort_56 : decode cXM_sort 56 = .ok (.aload_n 0, 1) := by decide +kernel
theorem dXM_sort_57 : decode cXM_sort 57 = .ok (.getfield 65, 3) := by decide +kernel
theorem dXM_sort_60 : decode cXM_sort 60 = .ok (.iload 5, 2) := by decide +kernel
theorem dXM_sort_62 : decode cXM_sort 62 = .ok (.aload_n 0, 1) := by decide +kernel
theorem dXM_sort_63 : decode cXM_sort 63 = .ok (.getfield 65, 3) := by decide +kernel
theorem dXM_sort_66 : decode cXM_sort 66 = .ok (.iload 5, 2) := by decide +kernel
theorem dXM_sort_68 : decode cXM_sort 68 = .ok (.iconst 1, 1) := by decide +kernel
theorem dXM_sort_69 : decode cXM_sort 69 = .ok (.isub, 1) := by decide +kernel
theorem dXM_sort_70 : decode cXM_sort 70 = .ok (.iaload, 1) := by decide +kernel
theorem dXM_sort_71 : decode cXM_sort 71 = .ok (.iastore, 1) := by decide +kernel
theorem dXM_sort_72 : decode cXM_sort 72 = .ok (.iinc 5 (-1), 3) := by decide +kernel
theorem dXM_sort_75 : decode cXM_sort 75 = .ok (.goto (-43), 3) := by decide +kernel
theorem dXM_sort_78 : decode cXM_sort 78 = .ok (.aload_n 0, 1) := by decide +kernel
theorem dXM_sort_79 : decode cXM_sort 79 = .ok (.getfield 65, 3) := by decide +kernel
theorem dXM_sort_82 : decode cXM_sort 82 = .ok (.iload 5, 2) := by decide +kernel
theorem dXM_sort_84 : decode cXM_sort 84 = .ok (.iload 4, 2) := by decide +kernel
theorem dXM_sort_86 : decode cXM_sort 86 = .ok (.iastore, 1) := by decide +kernel
theorem dXM_sort_87 : decode cXM_sort 87 = .ok (.aload_n 0, 1) := by decide +kernel
theorem dXM_sort_88 : decode cXM_sort 88 = .ok (.dup, 1) := by decide +kernel
theorem dXM_sort_89 : decode cXM_sort 89 = .ok (.getfield 138, 3) := by decide +kernel
theorem dXM_sort_92 : decode cXM_sort 92 = .ok (.iconst 1, 1) := by decide +kernel
theorem dXM_sort_93 : decode cXM_sort 93 = .ok (.iadd, 1) := by decide +kernel
theorem dXM_sort_94 : decode cXM_sort 94 = .ok (.putfield 138, 3) := by decide +kernel
theorem dXM_sort_97 : decode cXM_sort 97 = .ok (.iinc 4 1, 3) := by decide +kernel
theorem dXM_sort_100 : decode cXM_sort 100 = .ok (.goto (-92), 3) := by decide +kernel
theorem dXM_sort_103 : decode cXM_sort 103 = .ok (.return_, 1) := by decide +kernel
abbrev cXM_sortHeads : ByteArray := prog_10_method_31_code
def yXM_sortHeads : MethodName := ⟨RXM, "sortHeads", "(I)V"⟩
set_option maxRecDepth 100000 in
theorem qXM_sortHeads : Cond.code yXM_sortHeads cXM_sortHeads 2 none ∈ lg_tbl := fx_c 696 rfl
theorem hdXM_sortHeads : yXM_sortHeads.cls = RXM ∧ yXM_sortHeads.cls ≠ "java/lang/invoke/MethodHandle" ∧ yXM_sortHeads.cls ≠ "java/lang/invoke/VarHandle" ∧ (parseMethodDescriptor yXM_sortHeads.desc).map (fun d => d.parameters.length) = some 1 := by decide +kernel
theorem dXM_sortHeads_0 : decode cXM_sortHeads 0 = .ok (.aload_n 0, 1) := by decide +kernel
theorem dXM_sortHeads_1 : decode cXM_sortHeads 1 = .ok (.aload_n 0, 1) := by decide +kernel
theorem dXM_sortHeads_2 : decode cXM_sortHeads 2 = .ok (.iload_n 1, 1) := by decide +kernel
theorem dXM_sortHeads_3 : decode cXM_sortHeads 3 = .ok (.invokevirtual 157, 3) := by decide +kernel
theorem dXM_sortHeads_6 : decode cXM_sortHeads 6 = .ok (.iconst 0, 1) := by decide +kernel
theorem dXM_sortHeads_7 : decode cXM_sortHeads 7 = .ok (.invokevirtual 153, 3) := by decide +kernel
theorem dXM_sortHeads_10 : decode cXM_sortHeads 10 = .ok (.return_, 1) := by decide +kernel
abbrev cXM_write : ByteArray := prog_10_method_19_code
def yXM_write : MethodName := ⟨RXM, "write", "(IIII)I"⟩
set_option maxRecDepth 100000 in
theorem qXM_write : Cond.code yXM_write cXM_write 7 (some .int) ∈ lg_tbl := fx_c 689 rfl
theorem hdXM_write : yXM_write.cls = RXM ∧ yXM_write.cls ≠ "java/lang/invoke/MethodHandle" ∧ yXM_write.cls ≠ "java/lang/invoke/VarHandle" ∧ (parseMethodDescriptor yXM_write.desc).map (fun d => d.parameters.length) = some 4 := by decide +kernel
theorem dXM_write_0 : decode cXM_write 0 = .ok (.iload_n 1, 1) := by decide +kernel
theorem dXM_write_1 : decode cXM_write 1 = .ok (.invokestatic 132, 3) := by decide +kernel
theorem dXM_write_4 : decode cXM_write 4 = .ok (.ifCond .ne 5, 3) := by decide +kernel
theorem dXM_write_7 : decode cXM_write 7 = .ok (.iconst (-1), 1) := by decide +kernel
theorem dXM_write_8 : decode cXM_write 8 = .ok (.ireturn, 1) := by decide +kernel
theorem dXM_write_9 : decode cXM_write 9 = .ok (.aload_n 0, 1) := by decide +kernel
theorem dXM_write_10 : decode cXM_write 10 = .ok (.iload_n 1, 1) := by decide +kernel
theorem dXM_write_11 : decode cXM_write 11 = .ok (.invokevirtual 135, 3) := by decide +kernel
theorem dXM_write_14 : decode cXM_write 14 = .ok (.aload_n 0, 1) := by decide +kernel
theorem dXM_write_15 : decode cXM_write 15 = .ok (.getfield 138, 3) := by decide +kernel
theorem dXM_write_18 : decode cXM_write 18 = .ok (.iconst 4, 1) := by decide +kernel
theorem dXM_write_19 : decode cXM_write 19 = .ok (.if_icmp .le 12, 3) := by decide +kernel
theorem dXM_write_22 : decode cXM_write 22 = .ok (.aload_n 0, 1) := by decide +kernel
theorem dXM_write_23 : decode cXM_write 23 = .ok (.getfield 138, 3) := by decide +kernel
theorem dXM_write_26 : decode cXM_write 26 = .ok (.iconst 4, 1) := by decide +kernel
theorem dXM_write_27 : decode cXM_write 27 = .ok (.isub, 1) := by decide +kernel
theorem dXM_write_28 : decode cXM_write 28 = .ok (.goto 4, 3) := by decide +kernel
theorem dXM_write_31 : decode cXM_write 31 = .ok (.iconst 0, 1) := by decide +kernel
theorem dXM_write_32 : decode cXM_write 32 = .ok (.istore 5, 2) := by decide +kernel
theorem dXM_write_34 : decode cXM_write 34 = .ok (.aload_n 0, 1) := by decide +kernel
theorem dXM_write_35 : decode cXM_write 35 = .ok (.getfield 59, 3) := by decide +kernel
theorem dXM_write_38 : decode cXM_write 38 = .ok (.iconst 0, 1) := by decide +kernel
theorem dXM_write_39 : decode cXM_write 39 = .ok (.iload_n 1, 1) := by decide +kernel
theorem dXM_write_40 : decode cXM_write 40 = .ok (.iastore, 1) := by decide +kernel
theorem dXM_write_41 : decode cXM_write 41 = .ok (.aload_n 0, 1) := by decide +kernel
theorem dXM_write_42 : decode cXM_write 42 = .ok (.getfield 59, 3) := by decide +kernel
theorem dXM_write_45 : decode cXM_write 45 = .ok (.iconst 1, 1) := by decide +kernel
theorem dXM_write_46 : decode cXM_write 46 = .ok (.iload_n 2, 1) := by decide +kernel
theorem dXM_write_47 : decode cXM_write 47 = .ok (.iastore, 1) := by decide +kernel
theorem dXM_write_48 : decode cXM_write 48 = .ok (.aload_n 0, 1) := by decide +kernel
theorem dXM_write_49 : decode cXM_write 49 = .ok (.getfield 59, 3) := by decide +kernel
theorem dXM_write_52 : decode cXM_write 52 = .ok (.iconst 2, 1) := by decide +kernel
theorem dXM_write_53 : decode cXM_write 53 = .ok (.iload_n 3, 1) := by decide +kernel
theorem dXM_write_54 : decode cXM_write 54 = .ok (.iastore, 1) := by decide +kernel
theorem dXM_write_55 : decode cXM_write 55 = .ok (.aload_n 0, 1) := by decide +kernel
theorem dXM_write_56 : decode cXM_write 56 = .ok (.getfield 59, 3) := by decide +kernel
theorem dXM_write_59 : decode cXM_write 59 = .ok (.iconst 3, 1) := by decide +kernel
theorem dXM_write_60 : decode cXM_write 60 = .ok (.iload 4, 2) := by decide +kernel
theorem dXM_write_62 : decode cXM_write 62 = .ok (.iastore, 1) := by decide +kernel
theorem dXM_write_63 : decode cXM_write 63 = .ok (.aload_n 0, 1) := by decide +kernel
theorem dXM_write_64 : decode cXM_write 64 = .ok (.getfield 59, 3) := by decide +kernel
theorem dXM_write_67 : decode cXM_write 67 = .ok (.iconst 4, 1) := by decide +kernel
theorem dXM_write_68 : decode cXM_write 68 = .ok (.aload_n 0, 1) := by decide +kernel
theorem dXM_write_69 : decode cXM_write 69 = .ok (.getfield 138, 3) := by decide +kernel
theorem dXM_write_72 : decode cXM_write 72 = .ok (.iload 5, 2) := by decide +kernel
theorem dXM_write_74 : decode cXM_write 74 = .ok (.isub, 1) := by decide +kernel
theorem dXM_write_75 : decode cXM_write 75 = .ok (.iastore, 1) := by decide +kernel
theorem dXM_write_76 : decode cXM_write 76 = .ok (.iload 5, 2) := by decide +kernel
theorem dXM_write_78 : decode cXM_write 78 = .ok (.istore 6, 2) := by decide +kernel
theorem dXM_write_80 : decode cXM_write 80 = .ok (.iload 6, 2) := by decide +kernel
theorem dXM_write_82 : decode cXM_write 82 = .ok (.aload_n 0, 1) := by decide +kernel
theorem dXM_write_83 : decode cXM_write 83 = .ok (.getfield 138, 3) := by decide +kernel
theorem dXM_write_86 : decode cXM_write 86 = .ok (.if_icmp .ge 31, 3) := by decide +kernel
theorem dXM_write_89 : decode cXM_write 89 = .ok (.aload_n 0, 1) := by decide +kernel
theorem dXM_write_90 : decode cXM_write 90 = .ok (.getfield 62, 3) := by decide +kernel
theorem dXM_write_93 : decode cXM_write 93 = .ok (.iload 6, 2) := by decide +kernel
theorem dXM_write_95 : decode cXM_write 95 = .ok (.iload 5, 2) := by decide +kernel
theorem dXM_write_97 : decode cXM_write 97 = .ok (.isub, 1) := by decide +kernel
theorem dXM_write_98 : decode cXM_write 98 = .ok (.aload_n 0, 1) := by decide +kernel
theorem dXM_write_99 : decode cXM_write 99 = .ok (.getfield 7, 3) := by decide +kernel
theorem dXM_write_102 : decode cXM_write 102 = .ok (.aload_n 0, 1) := by decide +kernel
theorem dXM_write_103 : decode cXM_write 103 = .ok (.getfield 65, 3) := by decide +kernel
theorem dXM_write_106 : decode cXM_write 106 = .ok (.iload 6, 2) := by decide +kernel
theorem dXM_write_108 : decode cXM_write 108 = .ok (.iaload, 1) := by decide +kernel
theorem dXM_write_109 : decode cXM_write 109 = .ok (.laload, 1) := by decide +kernel
theorem dXM_write_110 : decode cXM_write 110 = .ok (.lastore, 1) := by decide +kernel
theorem dXM_write_111 : decode cXM_write 111 = .ok (.iinc 6 1, 3) := by decide +kernel
theorem dXM_write_114 : decode cXM_write 114 = .ok (.goto (-34), 3) := by decide +kernel
theorem dXM_write_117 : decode cXM_write 117 = .ok (.aload_n 0, 1) := by decide +kernel
theorem dXM_write_118 : decode cXM_write 118 = .ok (.aload_n 0, 1) := by decide +kernel
theorem dXM_write_119 : decode cXM_write 119 = .ok (.getfield 59, 3) := by decide +kernel
theorem dXM_write_122 : decode cXM_write 122 = .ok (.aload_n 0, 1) := by decide +kernel
theorem dXM_write_123 : decode cXM_write 123 = .ok (.getfield 62, 3) := by decide +kernel
theorem dXM_write_126 : decode cXM_write 126 = .ok (.invokestatic 141, 3) := by decide +kernel
theorem dXM_write_129 : decode cXM_write 129 = .ok (.putfield 80, 3) := by decide +kernel
theorem dXM_write_132 : decode cXM_write 132 = .ok (.aload_n 0, 1) := by decide +kernel
theorem dXM_write_133 : decode cXM_write 133 = .ok (.iload_n 1, 1) := by decide +kernel
theorem dXM_write_134 : decode cXM_write 134 = .ok (.invokevirtual 145, 3) := by decide +kernel
theorem dXM_write_137 : decode cXM_write 137 = .ok (.ireturn, 1) := by decide +kernel
end
section
abbrev cXM_draft : ByteArray := prog_10_method_20_code
def yXM_draft : MethodName := ⟨RXM, "draft", "(IIII)V"⟩
set_option maxRecDepth 100000 in
theorem qXM_draft : Cond.code yXM_draft cXM_draft 5 none ∈ lg_tbl := fx_c 776 rfl
theorem hdXM_draft : yXM_draft.cls = RXM ∧ yXM_draft.cls ≠ "java/lang/invoke/MethodHandle" ∧ yXM_draft.cls ≠ "java/lang/invoke/VarHandle" ∧ (parseMethodDescriptor yXM_draft.desc).map (fun d => d.parameters.length) = some 4 := by decide +kernel
theorem dXM_draft_0 : decode cXM_draft 0 = .ok (.aload_n 0, 1) := by decide +kernel
theorem dXM_draft_1 : decode cXM_draft 1 = .ok (.getfield 53, 3) := by decide +kernel
theorem dXM_draft_4 : decode cXM_draft 4 = .ok (.iconst 0, 1) := by decide +kernel
theorem dXM_draft_5 : decode cXM_draft 5 = .ok (.iload_n 1, 1) := by decide +kernel
theorem dXM_draft_6 : decode cXM_draft 6 = .ok (.iastore, 1) := by decide +kernel
theorem dXM_draft_7 : decode cXM_draft 7 = .ok (.aload_n 0, 1) := by decide +kernel
theorem dXM_draft_8 : decode cXM_draft 8 = .ok (.getfield 53, 3) := by decide +kernel
theorem dXM_draft_11 : decode cXM_draft 11 = .ok (.iconst 1, 1) := by decide +kernel
theorem dXM_draft_12 : decode cXM_draft 12 = .ok (.iload_n 2, 1) := by decide +kernel
theorem dXM_draft_13 : decode cXM_draft 13 = .ok (.iastore, 1) := by decide +kernel
theorem dXM_draft_14 : decode cXM_draft 14 = .ok (.aload_n 0, 1) := by decide +kernel
theorem dXM_draft_15 : decode cXM_draft 15 = .ok (.getfield 53, 3) := by decide +kernel
theorem dXM_draft_18 : decode cXM_draft 18 = .ok (.iconst 2, 1) := by decide +kernel
theorem dXM_draft_19 : decode cXM_draft 19 = .ok (.iload_n 3, 1) := by decide +kernel
theorem dXM_draft_20 : decode cXM_draft 20 = .ok (.iastore, 1) := by decide +kernel
theorem dXM_draft_21 : decode cXM_draft 21 = .ok (.aload_n 0, 1) := by decide +kernel
theorem dXM_draft_22 : decode cXM_draft 22 = .ok (.getfield 53, 3) := by decide +kernel
theorem dXM_draft_25 : decode cXM_draft 25 = .ok (.iconst 3, 1) := by decide +kernel
theorem dXM_draft_26 : decode cXM_draft 26 = .ok (.iload 4, 2) := by decide +kernel
theorem dXM_draft_28 : decode cXM_draft 28 = .ok (.iastore, 1) := by decide +kernel
theorem dXM_draft_29 : decode cXM_draft 29 = .ok (.aload_n 0, 1) := by decide +kernel
theorem dXM_draft_30 : decode cXM_draft 30 = .ok (.getfield 53, 3) := by decide +kernel
theorem dXM_draft_33 : decode cXM_draft 33 = .ok (.iconst 4, 1) := by decide +kernel
theorem dXM_draft_34 : decode cXM_draft 34 = .ok (.iconst 0, 1) := by decide +kernel
theorem dXM_draft_35 : decode cXM_draft 35 = .ok (.iastore, 1) := by decide +kernel
theorem dXM_draft_36 : decode cXM_draft 36 = .ok (.return_, 1) := by decide +kernel
abbrev cXM_link : ByteArray := prog_10_method_21_code
def yXM_link : MethodName := ⟨RXM, "link", "(J)Z"⟩
set_option maxRecDepth 100000 in
theorem qXM_link : Cond.code yXM_link cXM_link 3 (some .boolean) ∈ lg_tbl := fx_c 780 rfl
theorem hdXM_link : yXM_link.cls = RXM ∧ yXM_link.cls ≠ "java/lang/invoke/MethodHandle" ∧ yXM_link.cls ≠ "java/lang/invoke/VarHandle" ∧ (parseMethodDescriptor yXM_link.desc).map (fun d => d.parameters.length) = some 1 := by decide +kernel
theorem dXM_link_0 : decode cXM_link 0 = .ok (.aload_n 0, 1) := by decide +kernel
theorem dXM_link_1 : decode cXM_link 1 = .ok (.getfield 53, 3) := by decide +kernel
theorem dXM_link_4 : decode cXM_link 4 = .ok (.iconst 4, 1) := by decide +kernel
theorem dXM_link_5 : decode cXM_link 5 = .ok (.iaload, 1) := by decide +kernel
theorem dXM_link_6 : decode cXM_link 6 = .ok (.iconst 4, 1) := by decide +kernel
theorem dXM_link_7 : decode cXM_link 7 = .ok (.if_icmp .ne 5, 3) := by decide +kernel
theorem dXM_link_10 : decode cXM_link 10 = .ok (.iconst 0, 1) := by decide +kernel
theorem dXM_link_11 : decode cXM_link 11 = .ok (.ireturn, 1) := by decide +kernel
theorem dXM_link_12 : decode cXM_link 12 = .ok (.aload_n 0, 1) := by decide +kernel
theorem dXM_link_13 : decode cXM_link 13 = .ok (.getfield 56, 3) := by decide +kernel
theorem dXM_link_16 : decode cXM_link 16 = .ok (.aload_n 0, 1) := by decide +kernel
theorem dXM_link_17 : decode cXM_link 17 = .ok (.getfield 53, 3) := by decide +kernel
theorem dXM_link_20 : decode cXM_link 20 = .ok (.iconst 4, 1) := by decide +kernel
theorem dXM_link_21 : decode cXM_link 21 = .ok (.iaload, 1) := by decide +kernel
theorem dXM_link_22 : decode cXM_link 22 = .ok (.lload_n 1, 1) := by decide +kernel
theorem dXM_link_23 : decode cXM_link 23 = .ok (.lastore, 1) := by decide +kernel
theorem dXM_link_24 : decode cXM_link 24 = .ok (.aload_n 0, 1) := by decide +kernel
theorem dXM_link_25 : decode cXM_link 25 = .ok (.getfield 53, 3) := by decide +kernel
theorem dXM_link_28 : decode cXM_link 28 = .ok (.iconst 4, 1) := by decide +kernel
theorem dXM_link_29 : decode cXM_link 29 = .ok (.dup2, 1) := by decide +kernel
theorem dXM_link_30 : decode cXM_link 30 = .ok (.iaload, 1) := by decide +kernel
theorem dXM_link_31 : decode cXM_link 31 = .ok (.iconst 1, 1) := by decide +kernel
theorem dXM_link_32 : decode cXM_link 32 = .ok (.iadd, 1) := by decide +kernel
theorem dXM_link_33 : decode cXM_link 33 = .ok (.iastore, 1) := by decide +kernel
theorem dXM_link_34 : decode cXM_link 34 = .ok (.iconst 1, 1) := by decide +kernel
theorem dXM_link_35 : decode cXM_link 35 = .ok (.ireturn, 1) := by decide +kernel
abbrev cXM_draftHash : ByteArray := prog_10_method_22_code
def yXM_draftHash : MethodName := ⟨RXM, "draftHash", "()J"⟩
set_option maxRecDepth 100000 in
theorem qXM_draftHash : Cond.code yXM_draftHash cXM_draftHash 1 (some .long) ∈ lg_tbl := fx_c 784 rfl
theorem hdXM_draftHash : yXM_draftHash.cls = RXM ∧ yXM_draftHash.cls ≠ "java/lang/invoke/MethodHandle" ∧ yXM_draftHash.cls ≠ "java/lang/invoke/VarHandle" ∧ (parseMethodDescriptor yXM_draftHash.desc).map (fun d => d.parameters.length) = some 0 := by decide +kernel
theorem dXM_draftHash_0 : decode cXM_draftHash 0 = .ok (.aload_n 0, 1) := by decide +kernel
theorem dXM_draftHash_1 : decode cXM_draftHash 1 = .ok (.getfield 53, 3) := by decide +kernel
theorem dXM_draftHash_4 : decode cXM_draftHash 4 = .ok (.aload_n 0, 1) := by decide +kernel
theorem dXM_draftHash_5 : decode cXM_draftHash 5 = .ok (.getfield 56, 3) := by decide +kernel
theorem dXM_draftHash_8 : decode cXM_draftHash 8 = .ok (.invokestatic 141, 3) := by decide +kernel
theorem dXM_draftHash_11 : decode cXM_draftHash 11 = .ok (.lreturn, 1) := by decide +kernel
abbrev cXM_offer : ByteArray := prog_10_method_23_code
def yXM_offer : MethodName := ⟨RXM, "offer", "(I)I"⟩
set_option maxRecDepth 100000 in
theorem qXM_offer : Cond.code yXM_offer cXM_offer 3 (some .int) ∈ lg_tbl := fx_c 788 rfl
theorem hdXM_offer : yXM_offer.cls = RXM ∧ yXM_offer.cls ≠ "java/lang/invoke/MethodHandle" ∧ yXM_offer.cls ≠ "java/lang/invoke/VarHandle" ∧ (parseMethodDescriptor yXM_offer.desc).map (fun d => d.parameters.length) = some 1 := by decide +kernel
theorem dXM_offer_0 : decode cXM_offer 0 = .ok (.iload_n 1, 1) := by decide +kernel
theorem dXM_offer_1 : decode cXM_offer 1 = .ok (.invokestatic 132, 3) := by decide +kernel
theorem dXM_offer_4 : decode cXM_offer 4 = .ok (.ifCond .ne 5, 3) := by decide +kernel
theorem dXM_offer_7 : decode cXM_offer 7 = .ok (.iconst (-1), 1) := by decide +kernel
theorem dXM_offer_8 : decode cXM_offer 8 = .ok (.ireturn, 1) := by decide +kernel
theorem dXM_offer_9 : decode cXM_offer 9 = .ok (.iconst 0, 1) := by decide +kernel
theorem dXM_offer_10 : decode cXM_offer 10 = .ok (.istore_n 2, 1) := by decide +kernel
theorem dXM_offer_11 : decode cXM_offer 11 = .ok (.iload_n 2, 1) := by decide +kernel
theorem dXM_offer_12 : decode cXM_offer 12 = .ok (.iconst 5, 1) := by decide +kernel
theorem dXM_offer_13 : decode cXM_offer 13 = .ok (.if_icmp .ge 21, 3) := by decide +kernel
theorem dXM_offer_16 : decode cXM_offer 16 = .ok (.aload_n 0, 1) := by decide +kernel
theorem dXM_offer_17 : decode cXM_offer 17 = .ok (.getfield 59, 3) := by decide +kernel
theorem dXM_offer_20 : decode cXM_offer 20 = .ok (.iload_n 2, 1) := by decide +kernel
theorem dXM_offer_21 : decode cXM_offer 21 = .ok (.aload_n 0, 1) := by decide +kernel
theorem dXM_offer_22 : decode cXM_offer 22 = .ok (.getfield 53, 3) := by decide +kernel
theorem dXM_offer_25 : decode cXM_offer 25 = .ok (.iload_n 2, 1) := by decide +kernel
theorem dXM_offer_26 : decode cXM_offer 26 = .ok (.iaload, 1) := by decide +kernel
theorem dXM_offer_27 : decode cXM_offer 27 = .ok (.iastore, 1) := by decide +kernel
theorem dXM_offer_28 : decode cXM_offer 28 = .ok (.iinc 2 1, 3) := by decide +kernel
theorem dXM_offer_31 : decode cXM_offer 31 = .ok (.goto (-20), 3) := by decide +kernel
theorem dXM_offer_34 : decode cXM_offer 34 = .ok (.iconst 0, 1) := by decide +kernel
theorem dXM_offer_35 : decode cXM_offer 35 = .ok (.istore_n 2, 1) := by decide +kernel
theorem dXM_offer_36 : decode cXM_offer 36 = .ok (.iload_n 2, 1) := by decide +kernel
theorem dXM_offer_37 : decode cXM_offer 37 = .ok (.iconst 4, 1) := by decide +kernel
theorem dXM_offer_38 : decode cXM_offer 38 = .ok (.if_icmp .ge 21, 3) := by decide +kernel
theorem dXM_offer_41 : decode cXM_offer 41 = .ok (.aload_n 0, 1) := by decide +kernel
theorem dXM_offer_42 : decode cXM_offer 42 = .ok (.getfield 62, 3) := by decide +kernel
theorem dXM_offer_45 : decode cXM_offer 45 = .ok (.iload_n 2, 1) := by decide +kernel
theorem dXM_offer_46 : decode cXM_offer 46 = .ok (.aload_n 0, 1) := by decide +kernel
theorem dXM_offer_47 : decode cXM_offer 47 = .ok (.getfield 56, 3) := by decide +kernel
theorem dXM_offer_50 : decode cXM_offer 50 = .ok (.iload_n 2, 1) := by decide +kernel
theorem dXM_offer_51 : decode cXM_offer 51 = .ok (.laload, 1) := by decide +kernel
theorem dXM_offer_52 : decode cXM_offer 52 = .ok (.lastore, 1) := by decide +kernel
theorem dXM_offer_53 : decode cXM_offer 53 = .ok (.iinc 2 1, 3) := by decide +kernel
theorem dXM_offer_56 : decode cXM_offer 56 = .ok (.goto (-20), 3) := by decide +kernel
theorem dXM_offer_59 : decode cXM_offer 59 = .ok (.aload_n 0, 1) := by decide +kernel
theorem dXM_offer_60 : decode cXM_offer 60 = .ok (.aload_n 0, 1) := by decide +kernel
theorem dXM_offer_61 : decode cXM_offer 61 = .ok (.invokevirtual 148, 3) := by decide +kernel
theorem dXM_offer_64 : decode cXM_offer 64 = .ok (.putfield 80, 3) := by decide +kernel
theorem dXM_offer_67 : decode cXM_offer 67 = .ok (.aload_n 0, 1) := by decide +kernel
theorem dXM_offer_68 : decode cXM_offer 68 = .ok (.iload_n 1, 1) := by decide +kernel
theorem dXM_offer_69 : decode cXM_offer 69 = .ok (.invokevirtual 145, 3) := by decide +kernel
theorem dXM_offer_72 : decode cXM_offer 72 = .ok (.ireturn, 1) := by decide +kernel
abbrev cXM_linkSet : ByteArray := prog_10_method_25_code
def yXM_linkSet : MethodName := ⟨RXM, "linkSet", "(J)J"⟩
set_option maxRecDepth 100000 in
theorem qXM_linkSet : Cond.code yXM_linkSet cXM_linkSet 7 (some .long) ∈ lg_tbl := fx_c 797 rfl
theorem hdXM_linkSet : yXM_linkSet.cls = RXM ∧ yXM_linkSet.cls ≠ "java/lang/invoke/MethodHandle" ∧ yXM_linkSet.cls ≠ "java/lang/invoke/VarHandle" ∧ (parseMethodDescriptor yXM_linkSet.desc).map (fun d => d.parameters.length) = some 1 := by decide +kernel
theorem dXM_linkSet_0 : decode cXM_linkSet 0 = .ok (.lconst 0, 1) := by decide +kernel
theorem dXM_linkSet_1 : decode cXM_linkSet 1 = .ok (.lstore_n 3, 1) := by decide +kernel
theorem dXM_linkSet_2 : decode cXM_linkSet 2 = .ok (.iconst 0, 1) := by decide +kernel
theorem dXM_linkSet_3 : decode cXM_linkSet 3 = .ok (.istore 5, 2) := by decide +kernel
theorem dXM_linkSet_5 : decode cXM_linkSet 5 = .ok (.iload 5, 2) := by decide +kernel
theorem dXM_linkSet_7 : decode cXM_linkSet 7 = .ok (.aload_n 0, 1) := by decide +kernel
theorem dXM_linkSet_8 : decode cXM_linkSet 8 = .ok (.getfield 76, 3) := by decide +kernel
theorem dXM_linkSet_11 : decode cXM_linkSet 11 = .ok (.if_icmp .ge 60, 3) := by decide +kernel
theorem dXM_linkSet_14 : decode cXM_linkSet 14 = .ok (.iconst 0, 1) := by decide +kernel
theorem dXM_linkSet_15 : decode cXM_linkSet 15 = .ok (.istore 6, 2) := by decide +kernel
theorem dXM_linkSet_17 : decode cXM_linkSet 17 = .ok (.iload 6, 2) := by decide +kernel
theorem dXM_linkSet_19 : decode cXM_linkSet 19 = .ok (.aload_n 0, 1) := by decide +kernel
theorem dXM_linkSet_20 : decode cXM_linkSet 20 = .ok (.getfield 26, 3) := by decide +kernel
theorem dXM_linkSet_23 : decode cXM_linkSet 23 = .ok (.iload 5, 2) := by decide +kernel
theorem dXM_linkSet_25 : decode cXM_linkSet 25 = .ok (.iaload, 1) := by decide +kernel
theorem dXM_linkSet_26 : decode cXM_linkSet 26 = .ok (.if_icmp .ge 39, 3) := by decide +kernel
theorem dXM_linkSet_29 : decode cXM_linkSet 29 = .ok (.lload_n 1, 1) := by decide +kernel
theorem dXM_linkSet_30 : decode cXM_linkSet 30 = .ok (.iload 5, 2) := by decide +kernel
theorem dXM_linkSet_32 : decode cXM_linkSet 32 = .ok (.invokestatic 88, 3) := by decide +kernel
theorem dXM_linkSet_35 : decode cXM_linkSet 35 = .ok (.ifCond .eq 30, 3) := by decide +kernel
theorem dXM_linkSet_38 : decode cXM_linkSet 38 = .ok (.lload_n 3, 1) := by decide +kernel
theorem dXM_linkSet_39 : decode cXM_linkSet 39 = .ok (.lconst 1, 1) := by decide +kernel
theorem dXM_linkSet_40 : decode cXM_linkSet 40 = .ok (.aload_n 0, 1) := by decide +kernel
theorem dXM_linkSet_41 : decode cXM_linkSet 41 = .ok (.aload_n 0, 1) := by decide +kernel
theorem dXM_linkSet_42 : decode cXM_linkSet 42 = .ok (.getfield 29, 3) := by decide +kernel
theorem dXM_linkSet_45 : decode cXM_linkSet 45 = .ok (.iconst 4, 1) := by decide +kernel
theorem dXM_linkSet_46 : decode cXM_linkSet 46 = .ok (.iload 5, 2) := by decide +kernel
theorem dXM_linkSet_48 : decode cXM_linkSet 48 = .ok (.imul, 1) := by decide +kernel
theorem dXM_linkSet_49 : decode cXM_linkSet 49 = .ok (.iload 6, 2) := by decide +kernel
theorem dXM_linkSet_51 : decode cXM_linkSet 51 = .ok (.iadd, 1) := by decide +kernel
theorem dXM_linkSet_52 : decode cXM_linkSet 52 = .ok (.laload, 1) := by decide +kernel
theorem dXM_linkSet_53 : decode cXM_linkSet 53 = .ok (.invokevirtual 84, 3) := by decide +kernel
theorem dXM_linkSet_56 : decode cXM_linkSet 56 = .ok (.lshl, 1) := by decide +kernel
theorem dXM_linkSet_57 : decode cXM_linkSet 57 = .ok (.lor, 1) := by decide +kernel
theorem dXM_linkSet_58 : decode cXM_linkSet 58 = .ok (.lstore_n 3, 1) := by decide +kernel
theorem dXM_linkSet_59 : decode cXM_linkSet 59 = .ok (.iinc 6 1, 3) := by decide +kernel
theorem dXM_linkSet_62 : decode cXM_linkSet 62 = .ok (.goto (-45), 3) := by decide +kernel
theorem dXM_linkSet_65 : decode cXM_linkSet 65 = .ok (.iinc 5 1, 3) := by decide +kernel
theorem dXM_linkSet_68 : decode cXM_linkSet 68 = .ok (.goto (-63), 3) := by decide +kernel
theorem dXM_linkSet_71 : decode cXM_linkSet 71 = .ok (.lload_n 3, 1) := by decide +kernel
theorem dXM_linkSet_72 : decode cXM_linkSet 72 = .ok (.lreturn, 1) := by decide +kernel
abbrev cXM_bring : ByteArray := prog_10_method_26_code
def yXM_bring : MethodName := ⟨RXM, "bring", "(IJ)V"⟩
set_option maxRecDepth 100000 in
theorem qXM_bring : Cond.code yXM_bring cXM_bring 5 none ∈ lg_tbl := fx_c 801 rfl
theorem hdXM_bring : yXM_bring.cls = RXM ∧ yXM_bring.cls ≠ "java/lang/invoke/MethodHandle" ∧ yXM_bring.cls ≠ "java/lang/invoke/VarHandle" ∧ (parseMethodDescriptor yXM_bring.desc).map (fun d => d.parameters.length) = some 2 := by decide +kernel
theorem dXM_bring_0 : decode cXM_bring 0 = .ok (.aload_n 0, 1) := by decide +kernel
theorem dXM_bring_1 : decode cXM_bring 1 = .ok (.lload_n 2, 1) := by decide +kernel
theorem dXM_bring_2 : decode cXM_bring 2 = .ok (.iconst 1, 1) := by decide +kernel
theorem dXM_bring_3 : decode cXM_bring 3 = .ok (.invokevirtual 153, 3) := by decide +kernel
theorem dXM_bring_6 : decode cXM_bring 6 = .ok (.iconst 0, 1) := by decide +kernel
theorem dXM_bring_7 : decode cXM_bring 7 = .ok (.istore 4, 2) := by decide +kernel
theorem dXM_bring_9 : decode cXM_bring 9 = .ok (.iload 4, 2) := by decide +kernel
theorem dXM_bring_11 : decode cXM_bring 11 = .ok (.aload_n 0, 1) := by decide +kernel
theorem dXM_bring_12 : decode cXM_bring 12 = .ok (.getfield 138, 3) := by decide +kernel
theorem dXM_bring_15 : decode cXM_bring 15 = .ok (.if_icmp .ge 32, 3) := by decide +kernel
theorem dXM_bring_18 : decode cXM_bring 18 = .ok (.aload_n 0, 1) := by decide +kernel
theorem dXM_bring_19 : decode cXM_bring 19 = .ok (.aload_n 0, 1) := by decide +kernel
theorem dXM_bring_20 : decode cXM_bring 20 = .ok (.getfield 65, 3) := by decide +kernel
theorem dXM_bring_23 : decode cXM_bring 23 = .ok (.iload 4, 2) := by decide +kernel
theorem dXM_bring_25 : decode cXM_bring 25 = .ok (.iaload, 1) := by decide +kernel
theorem dXM_bring_26 : decode cXM_bring 26 = .ok (.invokevirtual 104, 3) := by decide +kernel
theorem dXM_bring_29 : decode cXM_bring 29 = .ok (.aload_n 0, 1) := by decide +kernel
theorem dXM_bring_30 : decode cXM_bring 30 = .ok (.iload_n 1, 1) := by decide +kernel
theorem dXM_bring_31 : decode cXM_bring 31 = .ok (.invokevirtual 145, 3) := by decide +kernel
theorem dXM_bring_34 : decode cXM_bring 34 = .ok (.pop, 1) := by decide +kernel
theorem dXM_bring_35 : decode cXM_bring 35 = .ok (.aload_n 0, 1) := by decide +kernel
theorem dXM_bring_36 : decode cXM_bring 36 = .ok (.lload_n 2, 1) := by decide +kernel
theorem dXM_bring_37 : decode cXM_bring 37 = .ok (.iconst 1, 1) := by decide +kernel
theorem dXM_bring_38 : decode cXM_bring 38 = .ok (.invokevirtual 153, 3) := by decide +kernel
theorem dXM_bring_41 : decode cXM_bring 41 = .ok (.iinc 4 1, 3) := by decide +kernel
theorem dXM_bring_44 : decode cXM_bring 44 = .ok (.goto (-35), 3) := by decide +kernel
theorem dXM_bring_47 : decode cXM_bring 47 = .ok (.return_, 1) := by decide +kernel
abbrev cXM_meet : ByteArray := prog_10_method_27_code
def yXM_meet : MethodName := ⟨RXM, "meet", "(II)I"⟩
set_option maxRecDepth 100000 in
theorem qXM_meet : Cond.code yXM_meet cXM_meet 17 (some .int) ∈ lg_tbl := fx_c 793 rfl
theorem hdXM_meet : yXM_meet.cls = RXM ∧ yXM_meet.cls ≠ "java/lang/invoke/MethodHandle" ∧ yXM_meet.cls ≠ "java/lang/invoke/VarHandle" ∧ (parseMethodDescriptor yXM_meet.desc).map (fun d => d.parameters.length) = some 2 := by decide +kernel
theorem dXM_meet_0 : decode cXM_meet 0 = .ok (.iload_n 1, 1) := by decide +kernel
theorem dXM_meet_1 : decode cXM_meet 1 = .ok (.invokestatic 132, 3) := by decide +kernel
theorem dXM_meet_4 : decode cXM_meet 4 = .ok (.ifCond .eq 15, 3) := by decide +kernel
theorem dXM_meet_7 : decode cXM_meet 7 = .ok (.iload_n 2, 1) := by decide +kernel
theorem dXM_meet_8 : decode cXM_meet 8 = .ok (.invokestatic 132, 3) := by decide +kernel
theorem dXM_meet_11 : decode cXM_meet 11 = .ok (.ifCond .eq 8, 3) := by decide +kernel
theorem dXM_meet_14 : decode cXM_meet 14 = .ok (.iload_n 1, 1) := by decide +kernel
theorem dXM_meet_15 : decode cXM_meet 15 = .ok (.iload_n 2, 1) := by decide +kernel
theorem dXM_meet_16 : decode cXM_meet 16 = .ok (.if_icmp .ne 5, 3) := by decide +kernel
theorem dXM_meet_19 : decode cXM_meet 19 = .ok (.iconst (-1), 1) := by decide +kernel
theorem dXM_meet_20 : decode cXM_meet 20 = .ok (.ireturn, 1) := by decide +kernel
theorem dXM_meet_21 : decode cXM_meet 21 = .ok (.aload_n 0, 1) := by decide +kernel
theorem dXM_meet_22 : decode cXM_meet 22 = .ok (.iload_n 2, 1) := by decide +kernel
theorem dXM_meet_23 : decode cXM_meet 23 = .ok (.invokevirtual 157, 3) := by decide +kernel
theorem dXM_meet_26 : decode cXM_meet 26 = .ok (.lstore_n 3, 1) := by decide +kernel
theorem dXM_meet_27 : decode cXM_meet 27 = .ok (.aload_n 0, 1) := by decide +kernel
theorem dXM_meet_28 : decode cXM_meet 28 = .ok (.iload_n 1, 1) := by decide +kernel
theorem dXM_meet_29 : decode cXM_meet 29 = .ok (.invokevirtual 157, 3) := by decide +kernel
theorem dXM_meet_32 : decode cXM_meet 32 = .ok (.lstore 5, 2) := by decide +kernel
theorem dXM_meet_34 : decode cXM_meet 34 = .ok (.lconst 0, 1) := by decide +kernel
theorem dXM_meet_35 : decode cXM_meet 35 = .ok (.lstore 7, 2) := by decide +kernel
theorem dXM_meet_37 : decode cXM_meet 37 = .ok (.lconst 0, 1) := by decide +kernel
theorem dXM_meet_38 : decode cXM_meet 38 = .ok (.lstore 9, 2) := by decide +kernel
theorem dXM_meet_40 : decode cXM_meet 40 = .ok (.iconst 0, 1) := by decide +kernel
theorem dXM_meet_41 : decode cXM_meet 41 = .ok (.istore 11, 2) := by decide +kernel
theorem dXM_meet_43 : decode cXM_meet 43 = .ok (.iconst 1, 1) := by decide +kernel
theorem dXM_meet_44 : decode cXM_meet 44 = .ok (.istore 12, 2) := by decide +kernel
theorem dXM_meet_46 : decode cXM_meet 46 = .ok (.iload 12, 2) := by decide +kernel
theorem dXM_meet_48 : decode cXM_meet 48 = .ok (.ifCond .eq 120, 3) := by decide +kernel
theorem dXM_meet_51 : decode cXM_meet 51 = .ok (.lload_n 3, 1) := by decide +kernel
theorem dXM_meet_52 : decode cXM_meet 52 = .ok (.aload_n 0, 1) := by decide +kernel
theorem dXM_meet_53 : decode cXM_meet 53 = .ok (.getfield 38, 3) := by decide +kernel
theorem dXM_meet_56 : decode cXM_meet 56 = .ok (.iload_n 1, 1) := by decide +kernel
theorem dXM_meet_57 : decode cXM_meet 57 = .ok (.laload, 1) := by decide +kernel
theorem dXM_meet_58 : decode cXM_meet 58 = .ok (.ldc2_w 151, 3) := by decide +kernel
theorem dXM_meet_61 : decode cXM_meet 61 = .ok (.lxor, 1) := by decide +kernel
theorem dXM_meet_62 : decode cXM_meet 62 = .ok (.land, 1) := by decide +kernel
theorem dXM_meet_63 : decode cXM_meet 63 = .ok (.lload 7, 2) := by decide +kernel
theorem dXM_meet_65 : decode cXM_meet 65 = .ok (.ldc2_w 151, 3) := by decide +kernel
theorem dXM_meet_68 : decode cXM_meet 68 = .ok (.lxor, 1) := by decide +kernel
theorem dXM_meet_69 : decode cXM_meet 69 = .ok (.land, 1) := by decide +kernel
theorem dXM_meet_70 : decode cXM_meet 70 = .ok (.lstore 13, 2) := by decide +kernel
theorem dXM_meet_72 : decode cXM_meet 72 = .ok (.lload 5, 2) := by decide +kernel
theorem dXM_meet_74 : decode cXM_meet 74 = .ok (.aload_n 0, 1) := by decide +kernel
theorem dXM_meet_75 : decode cXM_meet 75 = .ok (.getfield 38, 3) := by decide +kernel
theorem dXM_meet_78 : decode cXM_meet 78 = .ok (.iload_n 2, 1) := by decide +kernel
theorem dXM_meet_79 : decode cXM_meet 79 = .ok (.laload, 1) := by decide +kernel
theorem dXM_meet_80 : decode cXM_meet 80 = .ok (.ldc2_w 151, 3) := by decide +kernel
theorem dXM_meet_83 : decode cXM_meet 83 = .ok (.lxor, 1) := by decide +kernel
theorem dXM_meet_84 : decode cXM_meet 84 = .ok (.land, 1) := by decide +kernel
theorem dXM_meet_85 : decode cXM_meet 85 = .ok (.lload 9, 2) := by decide +kernel
theorem dXM_meet_87 : decode cXM_meet 87 = .ok (.ldc2_w 151, 3) := by decide +kernel
theorem dXM_meet_90 : decode cXM_meet 90 = .ok (.lxor, 1) := by decide +kernel
theorem dXM_meet_91 : decode cXM_meet 91 = .ok (.land, 1) := by decide +kernel
theorem dXM_meet_92 : decode cXM_meet 92 = .ok (.lstore 15, 2) := by decide +kernel
theorem dXM_meet_94 : decode cXM_meet 94 = .ok (.lload 13, 2) := by decide +kernel
theorem dXM_meet_96 : decode cXM_meet 96 = .ok (.lconst 0, 1) := by decide +kernel
theorem dXM_meet_97 : decode cXM_meet 97 = .ok (.lcmp, 1) := by decide +kernel
theorem dXM_meet_98 : decode cXM_meet 98 = .ok (.ifCond .ne 10, 3) := by decide +kernel
theorem dXM_meet_101 : decode cXM_meet 101 = .ok (.lload 15, 2) := by decide +kernel
theorem dXM_meet_103 : decode cXM_meet 103 = .ok (.lconst 0, 1) := by decide +kernel
theorem dXM_meet_104 : decode cXM_meet 104 = .ok (.lcmp, 1) := by decide +kernel
theorem dXM_meet_105 : decode cXM_meet 105 = .ok (.ifCond .eq 7, 3) := by decide +kernel
theorem dXM_meet_108 : decode cXM_meet 108 = .ok (.iconst 1, 1) := by decide +kernel
theorem dXM_meet_109 : decode cXM_meet 109 = .ok (.goto 4, 3) := by decide +kernel
theorem dXM_meet_112 : decode cXM_meet 112 = .ok (.iconst 0, 1) := by decide +kernel
theorem dXM_meet_113 : decode cXM_meet 113 = .ok (.istore 12, 2) := by decide +kernel
theorem dXM_meet_115 : decode cXM_meet 115 = .ok (.iload 12, 2) := by decide +kernel
theorem dXM_meet_117 : decode cXM_meet 117 = .ok (.ifCond .eq 10, 3) := by decide +kernel
theorem dXM_meet_120 : decode cXM_meet 120 = .ok (.iload 11, 2) := by decide +kernel
theorem dXM_meet_122 : decode cXM_meet 122 = .ok (.iconst 1, 1) := by decide +kernel
theorem dXM_meet_123 : decode cXM_meet 123 = .ok (.iadd, 1) := by decide +kernel
theorem dXM_meet_124 : decode cXM_meet 124 = .ok (.goto 5, 3) := by decide +kernel
theorem dXM_meet_127 : decode cXM_meet 127 = .ok (.iload 11, 2) := by decide +kernel
theorem dXM_meet_129 : decode cXM_meet 129 = .ok (.istore 11, 2) := by decide +kernel
theorem dXM_meet_131 : decode cXM_meet 131 = .ok (.lload 7, 2) := by decide +kernel
theorem dXM_meet_133 : decode cXM_meet 133 = .ok (.lload 13, 2) := by decide +kernel
theorem dXM_meet_135 : decode cXM_meet 135 = .ok (.lor, 1) := by decide +kernel
theorem dXM_meet_136 : decode cXM_meet 136 = .ok (.lstore 7, 2) := by decide +kernel
theorem dXM_meet_138 : decode cXM_meet 138 = .ok (.lload 9, 2) := by decide +kernel
theorem dXM_meet_140 : decode cXM_meet 140 = .ok (.lload 15, 2) := by decide +kernel
theorem dXM_meet_142 : decode cXM_meet 142 = .ok (.lor, 1) := by decide +kernel
theorem dXM_meet_143 : decode cXM_meet 143 = .ok (.lstore 9, 2) := by decide +kernel
theorem dXM_meet_145 : decode cXM_meet 145 = .ok (.lload_n 3, 1) := by decide +kernel
theorem dXM_meet_146 : decode cXM_meet 146 = .ok (.aload_n 0, 1) := by decide +kernel
theorem dXM_meet_147 : decode cXM_meet 147 = .ok (.lload 13, 2) := by decide +kernel
theorem dXM_meet_149 : decode cXM_meet 149 = .ok (.invokevirtual 161, 3) := by decide +kernel
theorem dXM_meet_152 : decode cXM_meet 152 = .ok (.lor, 1) := by decide +kernel
theorem dXM_meet_153 : decode cXM_meet 153 = .ok (.lstore_n 3, 1) := by decide +kernel
theorem dXM_meet_154 : decode cXM_meet 154 = .ok (.lload 5, 2) := by decide +kernel
theorem dXM_meet_156 : decode cXM_meet 156 = .ok (.aload_n 0, 1) := by decide +kernel
theorem dXM_meet_157 : decode cXM_meet 157 = .ok (.lload 15, 2) := by decide +kernel
theorem dXM_meet_159 : decode cXM_meet 159 = .ok (.invokevirtual 161, 3) := by decide +kernel
theorem dXM_meet_162 : decode cXM_meet 162 = .ok (.lor, 1) := by decide +kernel
theorem dXM_meet_163 : decode cXM_meet 163 = .ok (.lstore 5, 2) := by decide +kernel
theorem dXM_meet_165 : decode cXM_meet 165 = .ok (.goto (-119), 3) := by decide +kernel
theorem dXM_meet_168 : decode cXM_meet 168 = .ok (.aload_n 0, 1) := by decide +kernel
theorem dXM_meet_169 : decode cXM_meet 169 = .ok (.iload_n 1, 1) := by decide +kernel
theorem dXM_meet_170 : decode cXM_meet 170 = .ok (.lload 7, 2) := by decide +kernel
theorem dXM_meet_172 : decode cXM_meet 172 = .ok (.invokevirtual 165, 3) := by decide +kernel
theorem dXM_meet_175 : decode cXM_meet 175 = .ok (.aload_n 0, 1) := by decide +kernel
theorem dXM_meet_176 : decode cXM_meet 176 = .ok (.iload_n 2, 1) := by decide +kernel
theorem dXM_meet_177 : decode cXM_meet 177 = .ok (.lload 9, 2) := by decide +kernel
theorem dXM_meet_179 : decode cXM_meet 179 = .ok (.invokevirtual 165, 3) := by decide +kernel
theorem dXM_meet_182 : decode cXM_meet 182 = .ok (.iload 11, 2) := by decide +kernel
theorem dXM_meet_184 : decode cXM_meet 184 = .ok (.ireturn, 1) := by decide +kernel
abbrev cXM_drop : ByteArray := prog_10_method_28_code
def yXM_drop : MethodName := ⟨RXM, "drop", "(I)I"⟩
set_option maxRecDepth 100000 in
theorem qXM_drop : Cond.code yXM_drop cXM_drop 3 (some .int) ∈ lg_tbl := fx_c 805 rfl
theorem hdXM_drop : yXM_drop.cls = RXM ∧ yXM_drop.cls ≠ "java/lang/invoke/MethodHandle" ∧ yXM_drop.cls ≠ "java/lang/invoke/VarHandle" ∧ (parseMethodDescriptor yXM_drop.desc).map (fun d => d.parameters.length) = some 1 := by decide +kernel
theorem dXM_drop_0 : decode cXM_drop 0 = .ok (.iload_n 1, 1) := by decide +kernel
theorem dXM_drop_1 : decode cXM_drop 1 = .ok (.invokestatic 132, 3) := by decide +kernel
theorem dXM_drop_4 : decode cXM_drop 4 = .ok (.ifCond .ne 5, 3) := by decide +kernel
theorem dXM_drop_7 : decode cXM_drop 7 = .ok (.iconst (-1), 1) := by decide +kernel
theorem dXM_drop_8 : decode cXM_drop 8 = .ok (.ireturn, 1) := by decide +kernel
theorem dXM_drop_9 : decode cXM_drop 9 = .ok (.aload_n 0, 1) := by decide +kernel
theorem dXM_drop_10 : decode cXM_drop 10 = .ok (.getfield 41, 3) := by decide +kernel
theorem dXM_drop_13 : decode cXM_drop 13 = .ok (.iload_n 1, 1) := by decide +kernel
theorem dXM_drop_14 : decode cXM_drop 14 = .ok (.iaload, 1) := by decide +kernel
theorem dXM_drop_15 : decode cXM_drop 15 = .ok (.istore_n 2, 1) := by decide +kernel
theorem dXM_drop_16 : decode cXM_drop 16 = .ok (.aload_n 0, 1) := by decide +kernel
theorem dXM_drop_17 : decode cXM_drop 17 = .ok (.getfield 41, 3) := by decide +kernel
theorem dXM_drop_20 : decode cXM_drop 20 = .ok (.iload_n 1, 1) := by decide +kernel
theorem dXM_drop_21 : decode cXM_drop 21 = .ok (.iconst 0, 1) := by decide +kernel
theorem dXM_drop_22 : decode cXM_drop 22 = .ok (.iastore, 1) := by decide +kernel
theorem dXM_drop_23 : decode cXM_drop 23 = .ok (.iload_n 2, 1) := by decide +kernel
theorem dXM_drop_24 : decode cXM_drop 24 = .ok (.ireturn, 1) := by decide +kernel
abbrev cXM_placeOf : ByteArray := prog_10_method_32_code
def yXM_placeOf : MethodName := ⟨RXM, "placeOf", "(II)I"⟩
set_option maxRecDepth 100000 in
theorem qXM_placeOf : Cond.code yXM_placeOf cXM_placeOf 3 (some .int) ∈ lg_tbl := fx_c 828 rfl
theorem hdXM_placeOf : yXM_placeOf.cls = RXM ∧ yXM_placeOf.cls ≠ "java/lang/invoke/MethodHandle" ∧ yXM_placeOf.cls ≠ "java/lang/invoke/VarHandle" ∧ (parseMethodDescriptor yXM_placeOf.desc).map (fun d => d.parameters.length) = some 2 := by decide +kernel
theorem dXM_placeOf_0 : decode cXM_placeOf 0 = .ok (.iload_n 1, 1) := by decide +kernel
theorem dXM_placeOf_1 : decode cXM_placeOf 1 = .ok (.invokestatic 132, 3) := by decide +kernel
theorem dXM_placeOf_4 : decode cXM_placeOf 4 = .ok (.ifCond .ne 5, 3) := by decide +kernel
theorem dXM_placeOf_7 : decode cXM_placeOf 7 = .ok (.iconst (-1), 1) := by decide +kernel
theorem dXM_placeOf_8 : decode cXM_placeOf 8 = .ok (.ireturn, 1) := by decide +kernel
theorem dXM_placeOf_9 : decode cXM_placeOf 9 = .ok (.aload_n 0, 1) := by decide +kernel
theorem dXM_placeOf_10 : decode cXM_placeOf 10 = .ok (.aload_n 0, 1) := by decide +kernel
theorem dXM_placeOf_11 : decode cXM_placeOf 11 = .ok (.getfield 38, 3) := by decide +kernel
theorem dXM_placeOf_14 : decode cXM_placeOf 14 = .ok (.iload_n 1, 1) := by decide +kernel
theorem dXM_placeOf_15 : decode cXM_placeOf 15 = .ok (.laload, 1) := by decide +kernel
theorem dXM_placeOf_16 : decode cXM_placeOf 16 = .ok (.iconst 1, 1) := by decide +kernel
theorem dXM_placeOf_17 : decode cXM_placeOf 17 = .ok (.invokevirtual 153, 3) := by decide +kernel
theorem dXM_placeOf_20 : decode cXM_placeOf 20 = .ok (.iload_n 2, 1) := by decide +kernel
theorem dXM_placeOf_21 : decode cXM_placeOf 21 = .ok (.ifCond .lt 20, 3) := by decide +kernel
theorem dXM_placeOf_24 : decode cXM_placeOf 24 = .ok (.iload_n 2, 1) := by decide +kernel
theorem dXM_placeOf_25 : decode cXM_placeOf 25 = .ok (.aload_n 0, 1) := by decide +kernel
theorem dXM_placeOf_26 : decode cXM_placeOf 26 = .ok (.getfield 138, 3) := by decide +kernel
theorem dXM_placeOf_29 : decode cXM_placeOf 29 = .ok (.if_icmp .ge 12, 3) := by decide +kernel
theorem dXM_placeOf_32 : decode cXM_placeOf 32 = .ok (.aload_n 0, 1) := by decide +kernel
theorem dXM_placeOf_33 : decode cXM_placeOf 33 = .ok (.getfield 65, 3) := by decide +kernel
theorem dXM_placeOf_36 : decode cXM_placeOf 36 = .ok (.iload_n 2, 1) := by decide +kernel
theorem dXM_placeOf_37 : decode cXM_placeOf 37 = .ok (.iaload, 1) := by decide +kernel
theorem dXM_placeOf_38 : decode cXM_placeOf 38 = .ok (.goto 4, 3) := by decide +kernel
theorem dXM_placeOf_41 : decode cXM_placeOf 41 = .ok (.iconst (-1), 1) := by decide +kernel
theorem dXM_placeOf_42 : decode cXM_placeOf 42 = .ok (.ireturn, 1) := by decide +kernel
abbrev cXM_size : ByteArray := prog_10_method_33_code
def yXM_size : MethodName := ⟨RXM, "size", "(J)I"⟩
set_option maxRecDepth 100000 in
theorem qXM_size : Cond.code yXM_size cXM_size 4 (some .int) ∈ lg_tbl := fx_c 812 rfl
theorem hdXM_size : yXM_size.cls = RXM ∧ yXM_size.cls ≠ "java/lang/invoke/MethodHandle" ∧ yXM_size.cls ≠ "java/lang/invoke/VarHandle" ∧ (parseMethodDescriptor yXM_size.desc).map (fun d => d.parameters.length) = some 1 := by decide +kernel
theorem dXM_size_0 : decode cXM_size 0 = .ok (.iconst 0, 1) := by decide +kernel
theorem dXM_size_1 : decode cXM_size 1 = .ok (.istore_n 2, 1) := by decide +kernel
theorem dXM_size_2 : decode cXM_size 2 = .ok (.iconst 0, 1) := by decide +kernel
theorem dXM_size_3 : decode cXM_size 3 = .ok (.istore_n 3, 1) := by decide +kernel
theorem dXM_size_4 : decode cXM_size 4 = .ok (.iload_n 3, 1) := by decide +kernel
theorem dXM_size_5 : decode cXM_size 5 = .ok (.bipush 40, 2) := by decide +kernel
theorem dXM_size_7 : decode cXM_size 7 = .ok (.if_icmp .ge 25, 3) := by decide +kernel
theorem dXM_size_10 : decode cXM_size 10 = .ok (.iload_n 2, 1) := by decide +kernel
theorem dXM_size_11 : decode cXM_size 11 = .ok (.lload_n 0, 1) := by decide +kernel
theorem dXM_size_12 : decode cXM_size 12 = .ok (.iload_n 3, 1) := by decide +kernel
theorem dXM_size_13 : decode cXM_size 13 = .ok (.invokestatic 88, 3) := by decide +kernel
theorem dXM_size_16 : decode cXM_size 16 = .ok (.ifCond .eq 7, 3) := by decide +kernel
theorem dXM_size_19 : decode cXM_size 19 = .ok (.iconst 1, 1) := by decide +kernel
theorem dXM_size_20 : decode cXM_size 20 = .ok (.goto 4, 3) := by decide +kernel
theorem dXM_size_23 : decode cXM_size 23 = .ok (.iconst 0, 1) := by decide +kernel
theorem dXM_size_24 : decode cXM_size 24 = .ok (.iadd, 1) := by decide +kernel
theorem dXM_size_25 : decode cXM_size 25 = .ok (.istore_n 2, 1) := by decide +kernel
theorem dXM_size_26 : decode cXM_size 26 = .ok (.iinc 3 1, 3) := by decide +kernel
theorem dXM_size_29 : decode cXM_size 29 = .ok (.goto (-25), 3) := by decide +kernel
theorem dXM_size_32 : decode cXM_size 32 = .ok (.iload_n 2, 1) := by decide +kernel
theorem dXM_size_33 : decode cXM_size 33 = .ok (.ireturn, 1) := by decide +kernel
end
section
abbrev cXM_held : ByteArray := prog_10_method_34_code
def yXM_held : MethodName := ⟨RXM, "held", "(I)I"⟩
set_option maxRecDepth 100000 in
theorem qXM_held : Cond.code yXM_held cXM_held 2 (some .int) ∈ lg_tbl := fx_c 809 rfl
theorem hdXM_held : yXM_held.cls = RXM ∧ yXM_held.cls ≠ "java/lang/invoke/MethodHandle" ∧ yXM_held.cls ≠ "java/lang/invoke/VarHandle" ∧ (parseMethodDescriptor yXM_held.desc).map (fun d => d.parameters.length) = some 1 := by decide +kernel
theorem dXM_held_0 : decode cXM_held 0 = .ok (.iload_n 1, 1) := by decide +kernel
theorem dXM_held_1 : decode cXM_held 1 = .ok (.invokestatic 132, 3) := by decide +kernel
theorem dXM_held_4 : decode cXM_held 4 = .ok (.ifCond .eq 15, 3) := by decide +kernel
theorem dXM_held_7 : decode cXM_held 7 = .ok (.aload_n 0, 1) := by decide +kernel
theorem dXM_held_8 : decode cXM_held 8 = .ok (.getfield 38, 3) := by decide +kernel
theorem dXM_held_11 : decode cXM_held 11 = .ok (.iload_n 1, 1) := by decide +kernel
theorem dXM_held_12 : decode cXM_held 12 = .ok (.laload, 1) := by decide +kernel
theorem dXM_held_13 : decode cXM_held 13 = .ok (.invokestatic 173, 3) := by decide +kernel
theorem dXM_held_16 : decode cXM_held 16 = .ok (.goto 4, 3) := by decide +kernel
theorem dXM_held_19 : decode cXM_held 19 = .ok (.iconst (-1), 1) := by decide +kernel
theorem dXM_held_20 : decode cXM_held 20 = .ok (.ireturn, 1) := by decide +kernel
abbrev cXM_waiting : ByteArray := prog_10_method_35_code
def yXM_waiting : MethodName := ⟨RXM, "waiting", "(I)I"⟩
set_option maxRecDepth 100000 in
theorem qXM_waiting : Cond.code yXM_waiting cXM_waiting 2 (some .int) ∈ lg_tbl := fx_c 816 rfl
theorem hdXM_waiting : yXM_waiting.cls = RXM ∧ yXM_waiting.cls ≠ "java/lang/invoke/MethodHandle" ∧ yXM_waiting.cls ≠ "java/lang/invoke/VarHandle" ∧ (parseMethodDescriptor yXM_waiting.desc).map (fun d => d.parameters.length) = some 1 := by decide +kernel
theorem dXM_waiting_0 : decode cXM_waiting 0 = .ok (.iload_n 1, 1) := by decide +kernel
theorem dXM_waiting_1 : decode cXM_waiting 1 = .ok (.invokestatic 132, 3) := by decide +kernel
theorem dXM_waiting_4 : decode cXM_waiting 4 = .ok (.ifCond .eq 12, 3) := by decide +kernel
theorem dXM_waiting_7 : decode cXM_waiting 7 = .ok (.aload_n 0, 1) := by decide +kernel
theorem dXM_waiting_8 : decode cXM_waiting 8 = .ok (.getfield 41, 3) := by decide +kernel
theorem dXM_waiting_11 : decode cXM_waiting 11 = .ok (.iload_n 1, 1) := by decide +kernel
theorem dXM_waiting_12 : decode cXM_waiting 12 = .ok (.iaload, 1) := by decide +kernel
theorem dXM_waiting_13 : decode cXM_waiting 13 = .ok (.goto 4, 3) := by decide +kernel
theorem dXM_waiting_16 : decode cXM_waiting 16 = .ok (.iconst (-1), 1) := by decide +kernel
theorem dXM_waiting_17 : decode cXM_waiting 17 = .ok (.ireturn, 1) := by decide +kernel
abbrev cXM_has : ByteArray := prog_10_method_36_code
def yXM_has : MethodName := ⟨RXM, "has", "(IJ)Z"⟩
set_option maxRecDepth 100000 in
theorem qXM_has : Cond.code yXM_has cXM_has 4 (some .boolean) ∈ lg_tbl := fx_c 820 rfl
theorem hdXM_has : yXM_has.cls = RXM ∧ yXM_has.cls ≠ "java/lang/invoke/MethodHandle" ∧ yXM_has.cls ≠ "java/lang/invoke/VarHandle" ∧ (parseMethodDescriptor yXM_has.desc).map (fun d => d.parameters.length) = some 2 := by decide +kernel
theorem dXM_has_0 : decode cXM_has 0 = .ok (.iload_n 1, 1) := by decide +kernel
theorem dXM_has_1 : decode cXM_has 1 = .ok (.invokestatic 132, 3) := by decide +kernel
theorem dXM_has_4 : decode cXM_has 4 = .ok (.ifCond .eq 24, 3) := by decide +kernel
theorem dXM_has_7 : decode cXM_has 7 = .ok (.aload_n 0, 1) := by decide +kernel
theorem dXM_has_8 : decode cXM_has 8 = .ok (.getfield 38, 3) := by decide +kernel
theorem dXM_has_11 : decode cXM_has 11 = .ok (.iload_n 1, 1) := by decide +kernel
theorem dXM_has_12 : decode cXM_has 12 = .ok (.laload, 1) := by decide +kernel
theorem dXM_has_13 : decode cXM_has 13 = .ok (.aload_n 0, 1) := by decide +kernel
theorem dXM_has_14 : decode cXM_has 14 = .ok (.lload_n 2, 1) := by decide +kernel
theorem dXM_has_15 : decode cXM_has 15 = .ok (.invokevirtual 84, 3) := by decide +kernel
theorem dXM_has_18 : decode cXM_has 18 = .ok (.invokestatic 88, 3) := by decide +kernel
theorem dXM_has_21 : decode cXM_has 21 = .ok (.ifCond .eq 7, 3) := by decide +kernel
theorem dXM_has_24 : decode cXM_has 24 = .ok (.iconst 1, 1) := by decide +kernel
theorem dXM_has_25 : decode cXM_has 25 = .ok (.goto 4, 3) := by decide +kernel
theorem dXM_has_28 : decode cXM_has 28 = .ok (.iconst 0, 1) := by decide +kernel
theorem dXM_has_29 : decode cXM_has 29 = .ok (.ireturn, 1) := by decide +kernel
abbrev cXM_hashAt : ByteArray := prog_10_method_37_code
def yXM_hashAt : MethodName := ⟨RXM, "hashAt", "(II)J"⟩
set_option maxRecDepth 100000 in
theorem qXM_hashAt : Cond.code yXM_hashAt cXM_hashAt 4 (some .long) ∈ lg_tbl := fx_c 824 rfl
theorem hdXM_hashAt : yXM_hashAt.cls = RXM ∧ yXM_hashAt.cls ≠ "java/lang/invoke/MethodHandle" ∧ yXM_hashAt.cls ≠ "java/lang/invoke/VarHandle" ∧ (parseMethodDescriptor yXM_hashAt.desc).map (fun d => d.parameters.length) = some 2 := by decide +kernel
theorem dXM_hashAt_0 : decode cXM_hashAt 0 = .ok (.aload_n 0, 1) := by decide +kernel
theorem dXM_hashAt_1 : decode cXM_hashAt 1 = .ok (.iload_n 1, 1) := by decide +kernel
theorem dXM_hashAt_2 : decode cXM_hashAt 2 = .ok (.iload_n 2, 1) := by decide +kernel
theorem dXM_hashAt_3 : decode cXM_hashAt 3 = .ok (.invokevirtual 176, 3) := by decide +kernel
theorem dXM_hashAt_6 : decode cXM_hashAt 6 = .ok (.istore_n 3, 1) := by decide +kernel
theorem dXM_hashAt_7 : decode cXM_hashAt 7 = .ok (.iload_n 3, 1) := by decide +kernel
theorem dXM_hashAt_8 : decode cXM_hashAt 8 = .ok (.ifCond .ge 7, 3) := by decide +kernel
theorem dXM_hashAt_11 : decode cXM_hashAt 11 = .ok (.lconst 0, 1) := by decide +kernel
theorem dXM_hashAt_12 : decode cXM_hashAt 12 = .ok (.goto 9, 3) := by decide +kernel
theorem dXM_hashAt_15 : decode cXM_hashAt 15 = .ok (.aload_n 0, 1) := by decide +kernel
theorem dXM_hashAt_16 : decode cXM_hashAt 16 = .ok (.getfield 7, 3) := by decide +kernel
theorem dXM_hashAt_19 : decode cXM_hashAt 19 = .ok (.iload_n 3, 1) := by decide +kernel
theorem dXM_hashAt_20 : decode cXM_hashAt 20 = .ok (.laload, 1) := by decide +kernel
theorem dXM_hashAt_21 : decode cXM_hashAt 21 = .ok (.lreturn, 1) := by decide +kernel
abbrev cXM_about : ByteArray := prog_10_method_38_code
def yXM_about : MethodName := ⟨RXM, "about", "(III)I"⟩
set_option maxRecDepth 100000 in
theorem qXM_about : Cond.code yXM_about cXM_about 5 (some .int) ∈ lg_tbl := fx_c 832 rfl
theorem hdXM_about : yXM_about.cls = RXM ∧ yXM_about.cls ≠ "java/lang/invoke/MethodHandle" ∧ yXM_about.cls ≠ "java/lang/invoke/VarHandle" ∧ (parseMethodDescriptor yXM_about.desc).map (fun d => d.parameters.length) = some 3 := by decide +kernel
theorem dXM_about_0 : decode cXM_about 0 = .ok (.aload_n 0, 1) := by decide +kernel
theorem dXM_about_1 : decode cXM_about 1 = .ok (.iload_n 1, 1) := by decide +kernel
theorem dXM_about_2 : decode cXM_about 2 = .ok (.iload_n 2, 1) := by decide +kernel
theorem dXM_about_3 : decode cXM_about 3 = .ok (.invokevirtual 176, 3) := by decide +kernel
theorem dXM_about_6 : decode cXM_about 6 = .ok (.istore 4, 2) := by decide +kernel
theorem dXM_about_8 : decode cXM_about 8 = .ok (.iload 4, 2) := by decide +kernel
theorem dXM_about_10 : decode cXM_about 10 = .ok (.ifCond .lt 12, 3) := by decide +kernel
theorem dXM_about_13 : decode cXM_about 13 = .ok (.iload_n 3, 1) := by decide +kernel
theorem dXM_about_14 : decode cXM_about 14 = .ok (.ifCond .lt 8, 3) := by decide +kernel
theorem dXM_about_17 : decode cXM_about 17 = .ok (.iload_n 3, 1) := by decide +kernel
theorem dXM_about_18 : decode cXM_about 18 = .ok (.iconst 5, 1) := by decide +kernel
theorem dXM_about_19 : decode cXM_about 19 = .ok (.if_icmp .le 5, 3) := by decide +kernel
theorem dXM_about_22 : decode cXM_about 22 = .ok (.iconst (-1), 1) := by decide +kernel
theorem dXM_about_23 : decode cXM_about 23 = .ok (.ireturn, 1) := by decide +kernel
theorem dXM_about_24 : decode cXM_about 24 = .ok (.iload_n 3, 1) := by decide +kernel
theorem dXM_about_25 : decode cXM_about 25 = .ok (.iconst 2, 1) := by decide +kernel
theorem dXM_about_26 : decode cXM_about 26 = .ok (.if_icmp .ge 25, 3) := by decide +kernel
theorem dXM_about_29 : decode cXM_about 29 = .ok (.iload_n 3, 1) := by decide +kernel
theorem dXM_about_30 : decode cXM_about 30 = .ok (.ifCond .ne 13, 3) := by decide +kernel
theorem dXM_about_33 : decode cXM_about 33 = .ok (.aload_n 0, 1) := by decide +kernel
theorem dXM_about_34 : decode cXM_about 34 = .ok (.getfield 13, 3) := by decide +kernel
theorem dXM_about_37 : decode cXM_about 37 = .ok (.iload 4, 2) := by decide +kernel
theorem dXM_about_39 : decode cXM_about 39 = .ok (.iaload, 1) := by decide +kernel
theorem dXM_about_40 : decode cXM_about 40 = .ok (.goto 10, 3) := by decide +kernel
theorem dXM_about_43 : decode cXM_about 43 = .ok (.aload_n 0, 1) := by decide +kernel
theorem dXM_about_44 : decode cXM_about 44 = .ok (.getfield 17, 3) := by decide +kernel
theorem dXM_about_47 : decode cXM_about 47 = .ok (.iload 4, 2) := by decide +kernel
theorem dXM_about_49 : decode cXM_about 49 = .ok (.iaload, 1) := by decide +kernel
theorem dXM_about_50 : decode cXM_about 50 = .ok (.ireturn, 1) := by decide +kernel
theorem dXM_about_51 : decode cXM_about 51 = .ok (.iload_n 3, 1) := by decide +kernel
theorem dXM_about_52 : decode cXM_about 52 = .ok (.iconst 4, 1) := by decide +kernel
theorem dXM_about_53 : decode cXM_about 53 = .ok (.if_icmp .ge 26, 3) := by decide +kernel
theorem dXM_about_56 : decode cXM_about 56 = .ok (.iload_n 3, 1) := by decide +kernel
theorem dXM_about_57 : decode cXM_about 57 = .ok (.iconst 2, 1) := by decide +kernel
theorem dXM_about_58 : decode cXM_about 58 = .ok (.if_icmp .ne 13, 3) := by decide +kernel
theorem dXM_about_61 : decode cXM_about 61 = .ok (.aload_n 0, 1) := by decide +kernel
theorem dXM_about_62 : decode cXM_about 62 = .ok (.getfield 20, 3) := by decide +kernel
theorem dXM_about_65 : decode cXM_about 65 = .ok (.iload 4, 2) := by decide +kernel
theorem dXM_about_67 : decode cXM_about 67 = .ok (.iaload, 1) := by decide +kernel
theorem dXM_about_68 : decode cXM_about 68 = .ok (.goto 10, 3) := by decide +kernel
theorem dXM_about_71 : decode cXM_about 71 = .ok (.aload_n 0, 1) := by decide +kernel
theorem dXM_about_72 : decode cXM_about 72 = .ok (.getfield 23, 3) := by decide +kernel
theorem dXM_about_75 : decode cXM_about 75 = .ok (.iload 4, 2) := by decide +kernel
theorem dXM_about_77 : decode cXM_about 77 = .ok (.iaload, 1) := by decide +kernel
theorem dXM_about_78 : decode cXM_about 78 = .ok (.ireturn, 1) := by decide +kernel
theorem dXM_about_79 : decode cXM_about 79 = .ok (.iload_n 3, 1) := by decide +kernel
theorem dXM_about_80 : decode cXM_about 80 = .ok (.iconst 4, 1) := by decide +kernel
theorem dXM_about_81 : decode cXM_about 81 = .ok (.if_icmp .ne 13, 3) := by decide +kernel
theorem dXM_about_84 : decode cXM_about 84 = .ok (.aload_n 0, 1) := by decide +kernel
theorem dXM_about_85 : decode cXM_about 85 = .ok (.getfield 26, 3) := by decide +kernel
theorem dXM_about_88 : decode cXM_about 88 = .ok (.iload 4, 2) := by decide +kernel
theorem dXM_about_90 : decode cXM_about 90 = .ok (.iaload, 1) := by decide +kernel
theorem dXM_about_91 : decode cXM_about 91 = .ok (.goto 10, 3) := by decide +kernel
theorem dXM_about_94 : decode cXM_about 94 = .ok (.aload_n 0, 1) := by decide +kernel
theorem dXM_about_95 : decode cXM_about 95 = .ok (.getfield 35, 3) := by decide +kernel
theorem dXM_about_98 : decode cXM_about 98 = .ok (.iload 4, 2) := by decide +kernel
theorem dXM_about_100 : decode cXM_about 100 = .ok (.iaload, 1) := by decide +kernel
theorem dXM_about_101 : decode cXM_about 101 = .ok (.ireturn, 1) := by decide +kernel
abbrev cXM_linkAt : ByteArray := prog_10_method_39_code
def yXM_linkAt : MethodName := ⟨RXM, "linkAt", "(III)J"⟩
set_option maxRecDepth 100000 in
theorem qXM_linkAt : Cond.code yXM_linkAt cXM_linkAt 5 (some .long) ∈ lg_tbl := fx_c 836 rfl
theorem hdXM_linkAt : yXM_linkAt.cls = RXM ∧ yXM_linkAt.cls ≠ "java/lang/invoke/MethodHandle" ∧ yXM_linkAt.cls ≠ "java/lang/invoke/VarHandle" ∧ (parseMethodDescriptor yXM_linkAt.desc).map (fun d => d.parameters.length) = some 3 := by decide +kernel
theorem dXM_linkAt_0 : decode cXM_linkAt 0 = .ok (.aload_n 0, 1) := by decide +kernel
theorem dXM_linkAt_1 : decode cXM_linkAt 1 = .ok (.iload_n 1, 1) := by decide +kernel
theorem dXM_linkAt_2 : decode cXM_linkAt 2 = .ok (.iload_n 2, 1) := by decide +kernel
theorem dXM_linkAt_3 : decode cXM_linkAt 3 = .ok (.invokevirtual 176, 3) := by decide +kernel
theorem dXM_linkAt_6 : decode cXM_linkAt 6 = .ok (.istore 4, 2) := by decide +kernel
theorem dXM_linkAt_8 : decode cXM_linkAt 8 = .ok (.iload 4, 2) := by decide +kernel
theorem dXM_linkAt_10 : decode cXM_linkAt 10 = .ok (.ifCond .lt 18, 3) := by decide +kernel
theorem dXM_linkAt_13 : decode cXM_linkAt 13 = .ok (.iload_n 3, 1) := by decide +kernel
theorem dXM_linkAt_14 : decode cXM_linkAt 14 = .ok (.ifCond .lt 14, 3) := by decide +kernel
theorem dXM_linkAt_17 : decode cXM_linkAt 17 = .ok (.iload_n 3, 1) := by decide +kernel
theorem dXM_linkAt_18 : decode cXM_linkAt 18 = .ok (.aload_n 0, 1) := by decide +kernel
theorem dXM_linkAt_19 : decode cXM_linkAt 19 = .ok (.getfield 26, 3) := by decide +kernel
theorem dXM_linkAt_22 : decode cXM_linkAt 22 = .ok (.iload 4, 2) := by decide +kernel
theorem dXM_linkAt_24 : decode cXM_linkAt 24 = .ok (.iaload, 1) := by decide +kernel
theorem dXM_linkAt_25 : decode cXM_linkAt 25 = .ok (.if_icmp .lt 7, 3) := by decide +kernel
theorem dXM_linkAt_28 : decode cXM_linkAt 28 = .ok (.lconst 0, 1) := by decide +kernel
theorem dXM_linkAt_29 : decode cXM_linkAt 29 = .ok (.goto 14, 3) := by decide +kernel
theorem dXM_linkAt_32 : decode cXM_linkAt 32 = .ok (.aload_n 0, 1) := by decide +kernel
theorem dXM_linkAt_33 : decode cXM_linkAt 33 = .ok (.getfield 29, 3) := by decide +kernel
theorem dXM_linkAt_36 : decode cXM_linkAt 36 = .ok (.iconst 4, 1) := by decide +kernel
theorem dXM_linkAt_37 : decode cXM_linkAt 37 = .ok (.iload 4, 2) := by decide +kernel
theorem dXM_linkAt_39 : decode cXM_linkAt 39 = .ok (.imul, 1) := by decide +kernel
theorem dXM_linkAt_40 : decode cXM_linkAt 40 = .ok (.iload_n 3, 1) := by decide +kernel
theorem dXM_linkAt_41 : decode cXM_linkAt 41 = .ok (.iadd, 1) := by decide +kernel
theorem dXM_linkAt_42 : decode cXM_linkAt 42 = .ok (.laload, 1) := by decide +kernel
theorem dXM_linkAt_43 : decode cXM_linkAt 43 = .ok (.lreturn, 1) := by decide +kernel
abbrev cXM_heads : ByteArray := prog_10_method_40_code
def yXM_heads : MethodName := ⟨RXM, "heads", "(I)I"⟩
set_option maxRecDepth 100000 in
theorem qXM_heads : Cond.code yXM_heads cXM_heads 2 (some .int) ∈ lg_tbl := fx_c 840 rfl
theorem hdXM_heads : yXM_heads.cls = RXM ∧ yXM_heads.cls ≠ "java/lang/invoke/MethodHandle" ∧ yXM_heads.cls ≠ "java/lang/invoke/VarHandle" ∧ (parseMethodDescriptor yXM_heads.desc).map (fun d => d.parameters.length) = some 1 := by decide +kernel
theorem dXM_heads_0 : decode cXM_heads 0 = .ok (.iload_n 1, 1) := by decide +kernel
theorem dXM_heads_1 : decode cXM_heads 1 = .ok (.invokestatic 132, 3) := by decide +kernel
theorem dXM_heads_4 : decode cXM_heads 4 = .ok (.ifCond .eq 14, 3) := by decide +kernel
theorem dXM_heads_7 : decode cXM_heads 7 = .ok (.aload_n 0, 1) := by decide +kernel
theorem dXM_heads_8 : decode cXM_heads 8 = .ok (.iload_n 1, 1) := by decide +kernel
theorem dXM_heads_9 : decode cXM_heads 9 = .ok (.invokevirtual 157, 3) := by decide +kernel
theorem dXM_heads_12 : decode cXM_heads 12 = .ok (.invokestatic 173, 3) := by decide +kernel
theorem dXM_heads_15 : decode cXM_heads 15 = .ok (.goto 4, 3) := by decide +kernel
theorem dXM_heads_18 : decode cXM_heads 18 = .ok (.iconst (-1), 1) := by decide +kernel
theorem dXM_heads_19 : decode cXM_heads 19 = .ok (.ireturn, 1) := by decide +kernel
abbrev cXM_headAt : ByteArray := prog_10_method_41_code
def yXM_headAt : MethodName := ⟨RXM, "headAt", "(II)J"⟩
set_option maxRecDepth 100000 in
theorem qXM_headAt : Cond.code yXM_headAt cXM_headAt 3 (some .long) ∈ lg_tbl := fx_c 844 rfl
theorem hdXM_headAt : yXM_headAt.cls = RXM ∧ yXM_headAt.cls ≠ "java/lang/invoke/MethodHandle" ∧ yXM_headAt.cls ≠ "java/lang/invoke/VarHandle" ∧ (parseMethodDescriptor yXM_headAt.desc).map (fun d => d.parameters.length) = some 2 := by decide +kernel
theorem dXM_headAt_0 : decode cXM_headAt 0 = .ok (.iload_n 1, 1) := by decide +kernel
theorem dXM_headAt_1 : decode cXM_headAt 1 = .ok (.invokestatic 132, 3) := by decide +kernel
theorem dXM_headAt_4 : decode cXM_headAt 4 = .ok (.ifCond .ne 5, 3) := by decide +kernel
theorem dXM_headAt_7 : decode cXM_headAt 7 = .ok (.lconst 0, 1) := by decide +kernel
theorem dXM_headAt_8 : decode cXM_headAt 8 = .ok (.lreturn, 1) := by decide +kernel
theorem dXM_headAt_9 : decode cXM_headAt 9 = .ok (.aload_n 0, 1) := by decide +kernel
theorem dXM_headAt_10 : decode cXM_headAt 10 = .ok (.iload_n 1, 1) := by decide +kernel
theorem dXM_headAt_11 : decode cXM_headAt 11 = .ok (.invokevirtual 135, 3) := by decide +kernel
theorem dXM_headAt_14 : decode cXM_headAt 14 = .ok (.iload_n 2, 1) := by decide +kernel
theorem dXM_headAt_15 : decode cXM_headAt 15 = .ok (.ifCond .lt 11, 3) := by decide +kernel
theorem dXM_headAt_18 : decode cXM_headAt 18 = .ok (.iload_n 2, 1) := by decide +kernel
theorem dXM_headAt_19 : decode cXM_headAt 19 = .ok (.aload_n 0, 1) := by decide +kernel
theorem dXM_headAt_20 : decode cXM_headAt 20 = .ok (.getfield 138, 3) := by decide +kernel
theorem dXM_headAt_23 : decode cXM_headAt 23 = .ok (.if_icmp .lt 7, 3) := by decide +kernel
theorem dXM_headAt_26 : decode cXM_headAt 26 = .ok (.lconst 0, 1) := by decide +kernel
theorem dXM_headAt_27 : decode cXM_headAt 27 = .ok (.goto 14, 3) := by decide +kernel
theorem dXM_headAt_30 : decode cXM_headAt 30 = .ok (.aload_n 0, 1) := by decide +kernel
theorem dXM_headAt_31 : decode cXM_headAt 31 = .ok (.getfield 7, 3) := by decide +kernel
theorem dXM_headAt_34 : decode cXM_headAt 34 = .ok (.aload_n 0, 1) := by decide +kernel
theorem dXM_headAt_35 : decode cXM_headAt 35 = .ok (.getfield 65, 3) := by decide +kernel
theorem dXM_headAt_38 : decode cXM_headAt 38 = .ok (.iload_n 2, 1) := by decide +kernel
theorem dXM_headAt_39 : decode cXM_headAt 39 = .ok (.iaload, 1) := by decide +kernel
theorem dXM_headAt_40 : decode cXM_headAt 40 = .ok (.laload, 1) := by decide +kernel
theorem dXM_headAt_41 : decode cXM_headAt 41 = .ok (.lreturn, 1) := by decide +kernel
abbrev cXM_value : ByteArray := prog_10_method_42_code
def yXM_value : MethodName := ⟨RXM, "value", "(II)I"⟩
set_option maxRecDepth 100000 in
theorem qXM_value : Cond.code yXM_value cXM_value 6 (some .int) ∈ lg_tbl := fx_c 848 rfl
theorem hdXM_value : yXM_value.cls = RXM ∧ yXM_value.cls ≠ "java/lang/invoke/MethodHandle" ∧ yXM_value.cls ≠ "java/lang/invoke/VarHandle" ∧ (parseMethodDescriptor yXM_value.desc).map (fun d => d.parameters.length) = some 2 := by decide +kernel
theorem dXM_value_0 : decode cXM_value 0 = .ok (.iload_n 1, 1) := by decide +kernel
theorem dXM_value_1 : decode cXM_value 1 = .ok (.invokestatic 132, 3) := by decide +kernel
theorem dXM_value_4 : decode cXM_value 4 = .ok (.ifCond .eq 13, 3) := by decide +kernel
theorem dXM_value_7 : decode cXM_value 7 = .ok (.iload_n 2, 1) := by decide +kernel
theorem dXM_value_8 : decode cXM_value 8 = .ok (.ifCond .lt 9, 3) := by decide +kernel
theorem dXM_value_11 : decode cXM_value 11 = .ok (.iload_n 2, 1) := by decide +kernel
theorem dXM_value_12 : decode cXM_value 12 = .ok (.bipush 7, 2) := by decide +kernel
theorem dXM_value_14 : decode cXM_value 14 = .ok (.if_icmp .le 5, 3) := by decide +kernel
theorem dXM_value_17 : decode cXM_value 17 = .ok (.iconst 0, 1) := by decide +kernel
theorem dXM_value_18 : decode cXM_value 18 = .ok (.ireturn, 1) := by decide +kernel
theorem dXM_value_19 : decode cXM_value 19 = .ok (.aload_n 0, 1) := by decide +kernel
theorem dXM_value_20 : decode cXM_value 20 = .ok (.aload_n 0, 1) := by decide +kernel
theorem dXM_value_21 : decode cXM_value 21 = .ok (.getfield 38, 3) := by decide +kernel
theorem dXM_value_24 : decode cXM_value 24 = .ok (.iload_n 1, 1) := by decide +kernel
theorem dXM_value_25 : decode cXM_value 25 = .ok (.laload, 1) := by decide +kernel
theorem dXM_value_26 : decode cXM_value 26 = .ok (.iconst 1, 1) := by decide +kernel
theorem dXM_value_27 : decode cXM_value 27 = .ok (.invokevirtual 153, 3) := by decide +kernel
theorem dXM_value_30 : decode cXM_value 30 = .ok (.iconst 0, 1) := by decide +kernel
theorem dXM_value_31 : decode cXM_value 31 = .ok (.istore_n 3, 1) := by decide +kernel
theorem dXM_value_32 : decode cXM_value 32 = .ok (.iconst 0, 1) := by decide +kernel
theorem dXM_value_33 : decode cXM_value 33 = .ok (.istore 4, 2) := by decide +kernel
theorem dXM_value_35 : decode cXM_value 35 = .ok (.iload 4, 2) := by decide +kernel
theorem dXM_value_37 : decode cXM_value 37 = .ok (.aload_n 0, 1) := by decide +kernel
theorem dXM_value_38 : decode cXM_value 38 = .ok (.getfield 138, 3) := by decide +kernel
theorem dXM_value_41 : decode cXM_value 41 = .ok (.if_icmp .ge 70, 3) := by decide +kernel
theorem dXM_value_44 : decode cXM_value 44 = .ok (.aload_n 0, 1) := by decide +kernel
theorem dXM_value_45 : decode cXM_value 45 = .ok (.getfield 65, 3) := by decide +kernel
theorem dXM_value_48 : decode cXM_value 48 = .ok (.iload 4, 2) := by decide +kernel
theorem dXM_value_50 : decode cXM_value 50 = .ok (.iaload, 1) := by decide +kernel
theorem dXM_value_51 : decode cXM_value 51 = .ok (.istore 5, 2) := by decide +kernel
theorem dXM_value_53 : decode cXM_value 53 = .ok (.aload_n 0, 1) := by decide +kernel
theorem dXM_value_54 : decode cXM_value 54 = .ok (.getfield 20, 3) := by decide +kernel
theorem dXM_value_57 : decode cXM_value 57 = .ok (.iload 5, 2) := by decide +kernel
theorem dXM_value_59 : decode cXM_value 59 = .ok (.iaload, 1) := by decide +kernel
theorem dXM_value_60 : decode cXM_value 60 = .ok (.iload_n 2, 1) := by decide +kernel
theorem dXM_value_61 : decode cXM_value 61 = .ok (.if_icmp .ne 44, 3) := by decide +kernel
theorem dXM_value_64 : decode cXM_value 64 = .ok (.aload_n 0, 1) := by decide +kernel
theorem dXM_value_65 : decode cXM_value 65 = .ok (.getfield 17, 3) := by decide +kernel
theorem dXM_value_68 : decode cXM_value 68 = .ok (.iload 5, 2) := by decide +kernel
theorem dXM_value_70 : decode cXM_value 70 = .ok (.iaload, 1) := by decide +kernel
theorem dXM_value_71 : decode cXM_value 71 = .ok (.iconst 2, 1) := by decide +kernel
theorem dXM_value_72 : decode cXM_value 72 = .ok (.if_icmp .ge 33, 3) := by decide +kernel
theorem dXM_value_75 : decode cXM_value 75 = .ok (.aload_n 0, 1) := by decide +kernel
theorem dXM_value_76 : decode cXM_value 76 = .ok (.getfield 17, 3) := by decide +kernel
theorem dXM_value_79 : decode cXM_value 79 = .ok (.iload 5, 2) := by decide +kernel
theorem dXM_value_81 : decode cXM_value 81 = .ok (.iaload, 1) := by decide +kernel
theorem dXM_value_82 : decode cXM_value 82 = .ok (.ifCond .ne 13, 3) := by decide +kernel
theorem dXM_value_85 : decode cXM_value 85 = .ok (.aload_n 0, 1) := by decide +kernel
theorem dXM_value_86 : decode cXM_value 86 = .ok (.getfield 23, 3) := by decide +kernel
theorem dXM_value_89 : decode cXM_value 89 = .ok (.iload 5, 2) := by decide +kernel
theorem dXM_value_91 : decode cXM_value 91 = .ok (.iaload, 1) := by decide +kernel
theorem dXM_value_92 : decode cXM_value 92 = .ok (.goto 12, 3) := by decide +kernel
theorem dXM_value_95 : decode cXM_value 95 = .ok (.iload_n 3, 1) := by decide +kernel
theorem dXM_value_96 : decode cXM_value 96 = .ok (.aload_n 0, 1) := by decide +kernel
theorem dXM_value_97 : decode cXM_value 97 = .ok (.getfield 23, 3) := by decide +kernel
theorem dXM_value_100 : decode cXM_value 100 = .ok (.iload 5, 2) := by decide +kernel
theorem dXM_value_102 : decode cXM_value 102 = .ok (.iaload, 1) := by decide +kernel
theorem dXM_value_103 : decode cXM_value 103 = .ok (.iadd, 1) := by decide +kernel
theorem dXM_value_104 : decode cXM_value 104 = .ok (.istore_n 3, 1) := by decide +kernel
theorem dXM_value_105 : decode cXM_value 105 = .ok (.iinc 4 1, 3) := by decide +kernel
theorem dXM_value_108 : decode cXM_value 108 = .ok (.goto (-73), 3) := by decide +kernel
theorem dXM_value_111 : decode cXM_value 111 = .ok (.iload_n 3, 1) := by decide +kernel
theorem dXM_value_112 : decode cXM_value 112 = .ok (.ireturn, 1) := by decide +kernel
abbrev cXM_all : ByteArray := prog_10_method_43_code
def yXM_all : MethodName := ⟨RXM, "all", "()I"⟩
set_option maxRecDepth 100000 in
theorem qXM_all : Cond.code yXM_all cXM_all 1 (some .int) ∈ lg_tbl := fx_c 852 rfl
theorem hdXM_all : yXM_all.cls = RXM ∧ yXM_all.cls ≠ "java/lang/invoke/MethodHandle" ∧ yXM_all.cls ≠ "java/lang/invoke/VarHandle" ∧ (parseMethodDescriptor yXM_all.desc).map (fun d => d.parameters.length) = some 0 := by decide +kernel
theorem dXM_all_0 : decode cXM_all 0 = .ok (.aload_n 0, 1) := by decide +kernel
theorem dXM_all_1 : decode cXM_all 1 = .ok (.getfield 76, 3) := by decide +kernel
theorem dXM_all_4 : decode cXM_all 4 = .ok (.ireturn, 1) := by decide +kernel
end
section
/-! the reference: its object and its arrays, where they lie (printed by a program of mine) -/
abbrev mS : Type := (Nat → Nat → Int32) × (Nat → Nat → Int64) × Int32 × Int64 × Int32
def mi_up (I : Nat → Nat → Int32) (k j : Nat) (x : Int32) : Nat → Nat → Int32 := fun a => if a = k then upd (I k) j x else I a
def mj_up (J : Nat → Nat → Int64) (k j : Nat) (x : Int64) : Nat → Nat → Int64 := fun a => if a = k then vp_updL (J k) j x else J a
def mw (h0 : Nat) (ad : Nat → Nat) (cI cL : ClassId) (u : mS) : va_W := [(h0, .inr (0, [.int u.2.2.1, .ref (ad 0), .ref (ad 1), .ref (ad 2), .ref (ad 3), .ref (ad 4), .ref (ad 5), .ref (ad 6), .ref (ad 7), .ref (ad 8), .ref (ad 9), .ref (ad 10), .ref (ad 11), .ref (ad 12), .ref (ad 13), .ref (ad 14), .ref (ad 15), .ref (ad 16), .ref (ad 17), .long u.2.2.2.1, .int u.2.2.2.2, .ref (ad 18)])), (ad 0, .inl (cL, 40, .inr (.inl (u.2.1 0)))), (ad 1, .inl (cI, 40, .inl (u.1 0))), (ad 2, .inl (cI, 40, .inl (u.1 1))), (ad 3, .inl (cI, 40, .inl (u.1 2))), (ad 4, .inl (cI, 40, .inl (u.1 3))), (ad 5, .inl (cI, 40, .inl (u.1 4))), (ad 6, .inl (cL, 160, .inr (.inl (u.2.1 1)))), (ad 7, .inl (cL, 40, .inr (.inl (u.2.1 2)))), (ad 8, .inl (cI, 40, .inl (u.1 5))), (ad 9, .inl (cL, 4, .inr (.inl (u.2.1 3)))), (ad 10, .inl (cI, 4, .inl (u.1 6))), (ad 11, .inl (cL, 24, .inr (.inl (u.2.1 4)))), (ad 12, .inl (cI, 120, .inl (u.1 7))), (ad 13, .inl (cL, 96, .inr (.inl (u.2.1 5)))), (ad 14, .inl (cI, 5, .inl (u.1 8))), (ad 15, .inl (cL, 4, .inr (.inl (u.2.1 6)))), (ad 16, .inl (cI, 5, .inl (u.1 9))), (ad 17, .inl (cL, 4, .inr (.inl (u.2.1 7)))), (ad 18, .inl (cI, 40, .inl (u.1 10)))]
abbrev mTy (cI cL : ClassId) : List (ClassId × FieldType) := [(cI, .int), (cL, .long)]
def mW (D : va_G) (h0 : Nat) (ad : Nat → Nat) (cI cL : ClassId) (u : mS) (H : Heap) : Prop := va_P D vwCl (mw h0 ad cI cL u) H
def mDs (A : Nat → Prop) (h0 : Nat) (ad : Nat → Nat) (cI cL : ClassId) : Prop := ∀ u : mS, va_D A (mw h0 ad cI cL u)
def mCx (p : Program) (s : State) (m : MethodId) (args : Array Value) (meth : Method) (c : Code) (D : va_G) (A : Nat → Prop) (h0 : Nat) (ad : Nat → Nat) (cI cL : ClassId) (cc : ByteArray) (nL : Nat) (ret : Option FieldType) : Prop := p.tables.exec = Jvm.exec ∧ c.code = cc ∧ meth.sig.returnType = ret ∧ c.maxLocals = nL ∧ s.vm.findClass RXM = some m.cls ∧ (∀ w ∈ lg_tbl, w.before args s = true) ∧ meth.locks = false ∧ va_K D vwCl (mTy cI cL) s ∧ fx_N s ∧ mDs A h0 ad cI cL
section MROWS
variable {p : Program} {l : Launch} {e : Env} {R : Room} {s : State} {m : MethodId} {args : Array Value} {below : List Frame} {meth : Method} {c : Code} {H H0 : Heap} {locs : List Loc} {cells slots : Nat} {Q : State → Prop} {cc : ByteArray} {pc : Nat} {ls : Array Slot} {rest : List Value} {D : va_G} {A : Nat → Prop} {h0 : Nat} {ad : Nat → Nat} {cI cL : ClassId} {I : Nat → Nat → Int32} {J : Nat → Nat → Int64} {cn : Int32} {cm : Int64} {so : Int32}
theorem mi_all : ∀ w ∈ u_ws RXM TXM 22, w ∈ lg_tbl := fx_mA (by decide +kernel)
theorem mi_nm : ∀ a, a < 22 → ∀ b, b < 22 → a ≠ b → (TXM a).2.1 ≠ (TXM b).2.1 := by decide +kernel
theorem mi_ty : ∀ k, k < 22 → parseFieldDescriptor (TXM k).2.2.1 = some (tyXM k) := by decide +kernel
theorem m_recv (hK : va_K D vwCl (mTy cI cL) s) (hP : mW D h0 ad cI cL (I, J, cn, cm, so) H) : ∃ cellB : Cell, H[h0]? = some cellB ∧ cellB.vm.isStatics = false ∧ s.vm.findClass RXM = some cellB.cls := va_recv hK hP (ci := 0) (q0 := 0) rfl rfl
theorem mk_count : Cond.fieldLink RXM 76 RXM "count" "I" ∈ lg_tbl := fx_m (by decide +kernel)
theorem mg_count (hx : p.tables.exec = Jvm.exec) (hb : c.code = cc) (hown : s.vm.findClass RXM = some m.cls) (hts : ∀ w ∈ lg_tbl, w.before args s = true) (hK : va_K D vwCl (mTy cI cL) s) (hP : mW D h0 ad cI cL (I, J, cn, cm, so) H) (hdg : decode cc pc = .ok (.getfield 76, 3)) (kk : W p l e R s m args below meth c H locs cells slots Q (F0 m (pc + 3) ls (.int cn :: rest))) : W p l e R s m args below meth c H locs cells slots Q (F0 m pc ls (.ref h0 :: rest)) := va_get (own := RXM) (ref := RXM) (C := RXM) (T := TXM) (N := 22) (ci := 0) (v := .int cn) hx hb hts mi_all hown hK hP 0 rfl rfl 0 (by decide) (hts _ mk_count) (fun _ h9 => h9) rfl hdg kk
theorem mp_count (hx : p.tables.exec = Jvm.exec) (hb : c.code = cc) (hown : s.vm.findClass RXM = some m.cls) (hts : ∀ w ∈ lg_tbl, w.before args s = true) (hK : va_K D vwCl (mTy cI cL) s) (hD : mDs A h0 ad cI cL) (hP : mW D h0 ad cI cL (I, J, cn, cm, so) H) (hS : va_S A H0 H locs) {x : Int32} (hdg : decode cc pc = .ok (.putfield 76, 3)) (kk : ∀ (H1 : Heap) (locs1 : List Loc), mW D h0 ad cI cL (I, J, x, cm, so) H1 → va_S A H0 H1 locs1 → W p l e R s m args below meth c H1 locs1 cells slots Q (F0 m (pc + 3) ls rest)) : W p l e R s m args below meth c H locs cells slots Q (F0 m pc ls (.int x :: .ref h0 :: rest)) := va_put (own := RXM) (ref := RXM) (C := RXM) (T := TXM) (N := 22) (ci := 0) (v := .int x) (ty := .int) hx hb hts mi_all tyXM mi_ty mi_nm hown hK hP (hD _) hS 0 rfl rfl 0 (by decide) (hts _ mk_count) (fun _ h9 => h9) rfl (by decide +kernel) rfl rfl (Nat.le_of_ble_eq_true rfl) hdg (fun H1 locs1 h1 _ h3 => kk H1 locs1 h1 h3)
theorem mk_hash : Cond.fieldLink RXM 7 RXM "hash" "[J" ∈ lg_tbl := fx_m (by decide +kernel)
theorem mg_hash (hx : p.tables.exec = Jvm.exec) (hb : c.code = cc) (hown : s.vm.findClass RXM = some m.cls) (hts : ∀ w ∈ lg_tbl, w.before args s = true) (hK : va_K D vwCl (mTy cI cL) s) (hP : mW D h0 ad cI cL (I, J, cn, cm, so) H) (hdg : decode cc pc = .ok (.getfield 7, 3)) (kk : W p l e R s m args below meth c H locs cells slots Q (F0 m (pc + 3) ls (.ref (ad 0) :: rest))) : W p l e R s m args below meth c H locs cells slots Q (F0 m pc ls (.ref h0 :: rest)) := va_get (own := RXM) (ref := RXM) (C := RXM) (T := TXM) (N := 22) (ci := 0) (v := .ref (ad 0)) hx hb hts mi_all hown hK hP 0 rfl rfl 1 (by decide) (hts _ mk_hash) (fun _ h9 => h9) rfl hdg kk
theorem mk_author : Cond.fieldLink RXM 13 RXM "author" "[I" ∈ lg_tbl := fx_m (by decide +kernel)
theorem mg_author (hx : p.tables.exec = Jvm.exec) (hb : c.code = cc) (hown : s.vm.findClass RXM = some m.cls) (hts : ∀ w ∈ lg_tbl, w.before args s = true) (hK : va_K D vwCl (mTy cI cL) s) (hP : mW D h0 ad cI cL (I, J, cn, cm, so) H) (hdg : decode cc pc = .ok (.getfield 13, 3)) (kk : W p l e R s m args below meth c H locs cells slots Q (F0 m (pc + 3) ls (.ref (ad 1) :: rest))) : W p l e R s m args below meth c H locs cells slots Q (F0 m pc ls (.ref h0 :: rest)) := va_get (own := RXM) (ref := RXM) (C := RXM) (T := TXM) (N := 22) (ci := 0) (v := .ref (ad 1)) hx hb hts mi_all hown hK hP 0 rfl rfl 2 (by decide) (hts _ mk_author) (fun _ h9 => h9) rfl hdg kk
theorem mk_kind : Cond.fieldLink RXM 17 RXM "kind" "[I" ∈ lg_tbl := fx_m (by decide +kernel)
theorem mg_kind (hx : p.tables.exec = Jvm.exec) (hb : c.code = cc) (hown : s.vm.findClass RXM = some m.cls) (hts : ∀ w ∈ lg_tbl, w.before args s = true) (hK : va_K D vwCl (mTy cI cL) s) (hP : mW D h0 ad cI cL (I, J, cn, cm, so) H) (hdg : decode cc pc = .ok (.getfield 17, 3)) (kk : W p l e R s m args below meth c H locs cells slots Q (F0 m (pc + 3) ls (.ref (ad 2) :: rest))) : W p l e R s m args below meth c H locs cells slots Q (F0 m pc ls (.ref h0 :: rest)) := va_get (own := RXM) (ref := RXM) (C := RXM) (T := TXM) (N := 22) (ci := 0) (v := .ref (ad 2)) hx hb hts mi_all hown hK hP 0 rfl rfl 3 (by decide) (hts _ mk_kind) (fun _ h9 => h9) rfl hdg kk
theorem mk_key : Cond.fieldLink RXM 20 RXM "key" "[I" ∈ lg_tbl := fx_m (by decide +kernel)
theorem mg_key (hx : p.tables.exec = Jvm.exec) (hb : c.code = cc) (hown : s.vm.findClass RXM = some m.cls) (hts : ∀ w ∈ lg_tbl, w.before args s = true) (hK : va_K D vwCl (mTy cI cL) s) (hP : mW D h0 ad cI cL (I, J, cn, cm, so) H) (hdg : decode cc pc = .ok (.getfield 20, 3)) (kk : W p l e R s m args below meth c H locs cells slots Q (F0 m (pc + 3) ls (.ref (ad 3) :: rest))) : W p l e R s m args below meth c H locs cells slots Q (F0 m pc ls (.ref h0 :: rest)) := va_get (own := RXM) (ref := RXM) (C := RXM) (T := TXM) (N := 22) (ci := 0) (v := .ref (ad 3)) hx hb hts mi_all hown hK hP 0 rfl rfl 4 (by decide) (hts _ mk_key) (fun _ h9 => h9) rfl hdg kk
theorem mk_value : Cond.fieldLink RXM 23 RXM "value" "[I" ∈ lg_tbl := fx_m (by decide +kernel)
theorem mg_value (hx : p.tables.exec = Jvm.exec) (hb : c.code = cc) (hown : s.vm.findClass RXM = some m.cls) (hts : ∀ w ∈ lg_tbl, w.before args s = true) (hK : va_K D vwCl (mTy cI cL) s) (hP : mW D h0 ad cI cL (I, J, cn, cm, so) H) (hdg : decode cc pc = .ok (.getfield 23, 3)) (kk : W p l e R s m args below meth c H locs cells slots Q (F0 m (pc + 3) ls (.ref (ad 4) :: rest))) : W p l e R s m args below meth c H locs cells slots Q (F0 m pc ls (.ref h0 :: rest)) := va_get (own := RXM) (ref := RXM) (C := RXM) (T := TXM) (N := 22) (ci := 0) (v := .ref (ad 4)) hx hb hts mi_all hown hK hP 0 rfl rfl 5 (by decide) (hts _ mk_value) (fun _ h9 => h9) rfl hdg kk
theorem mk_links : Cond.fieldLink RXM 26 RXM "links" "[I" ∈ lg_tbl := fx_m (by decide +kernel)
theorem mg_links (hx : p.tables.exec = Jvm.exec) (hb : c.code = cc) (hown : s.vm.findClass RXM = some m.cls) (hts : ∀ w ∈ lg_tbl, w.before args s = true) (hK : va_K D vwCl (mTy cI cL) s) (hP : mW D h0 ad cI cL (I, J, cn, cm, so) H) (hdg : decode cc pc = .ok (.getfield 26, 3)) (kk : W p l e R s m args below meth c H locs cells slots Q (F0 m (pc + 3) ls (.ref (ad 5) :: rest))) : W p l e R s m args below meth c H locs cells slots Q (F0 m pc ls (.ref h0 :: rest)) := va_get (own := RXM) (ref := RXM) (C := RXM) (T := TXM) (N := 22) (ci := 0) (v := .ref (ad 5)) hx hb hts mi_all hown hK hP 0 rfl rfl 6 (by decide) (hts _ mk_links) (fun _ h9 => h9) rfl hdg kk
theorem mk_link : Cond.fieldLink RXM 29 RXM "link" "[J" ∈ lg_tbl := fx_m (by decide +kernel)
theorem mg_link (hx : p.tables.exec = Jvm.exec) (hb : c.code = cc) (hown : s.vm.findClass RXM = some m.cls) (hts : ∀ w ∈ lg_tbl, w.before args s = true) (hK : va_K D vwCl (mTy cI cL) s) (hP : mW D h0 ad cI cL (I, J, cn, cm, so) H) (hdg : decode cc pc = .ok (.getfield 29, 3)) (kk : W p l e R s m args below meth c H locs cells slots Q (F0 m (pc + 3) ls (.ref (ad 6) :: rest))) : W p l e R s m args below meth c H locs cells slots Q (F0 m pc ls (.ref h0 :: rest)) := va_get (own := RXM) (ref := RXM) (C := RXM) (T := TXM) (N := 22) (ci := 0) (v := .ref (ad 6)) hx hb hts mi_all hown hK hP 0 rfl rfl 7 (by decide) (hts _ mk_link) (fun _ h9 => h9) rfl hdg kk
theorem mk_past : Cond.fieldLink RXM 32 RXM "past" "[J" ∈ lg_tbl := fx_m (by decide +kernel)
theorem mg_past (hx : p.tables.exec = Jvm.exec) (hb : c.code = cc) (hown : s.vm.findClass RXM = some m.cls) (hts : ∀ w ∈ lg_tbl, w.before args s = true) (hK : va_K D vwCl (mTy cI cL) s) (hP : mW D h0 ad cI cL (I, J, cn, cm, so) H) (hdg : decode cc pc = .ok (.getfield 32, 3)) (kk : W p l e R s m args below meth c H locs cells slots Q (F0 m (pc + 3) ls (.ref (ad 7) :: rest))) : W p l e R s m args below meth c H locs cells slots Q (F0 m pc ls (.ref h0 :: rest)) := va_get (own := RXM) (ref := RXM) (C := RXM) (T := TXM) (N := 22) (ci := 0) (v := .ref (ad 7)) hx hb hts mi_all hown hK hP 0 rfl rfl 8 (by decide) (hts _ mk_past) (fun _ h9 => h9) rfl hdg kk
theorem mk_depth : Cond.fieldLink RXM 35 RXM "depth" "[I" ∈ lg_tbl := fx_m (by decide +kernel)
theorem mg_depth (hx : p.tables.exec = Jvm.exec) (hb : c.code = cc) (hown : s.vm.findClass RXM = some m.cls) (hts : ∀ w ∈ lg_tbl, w.before args s = true) (hK : va_K D vwCl (mTy cI cL) s) (hP : mW D h0 ad cI cL (I, J, cn, cm, so) H) (hdg : decode cc pc = .ok (.getfield 35, 3)) (kk : W p l e R s m args below meth c H locs cells slots Q (F0 m (pc + 3) ls (.ref (ad 8) :: rest))) : W p l e R s m args below meth c H locs cells slots Q (F0 m pc ls (.ref h0 :: rest)) := va_get (own := RXM) (ref := RXM) (C := RXM) (T := TXM) (N := 22) (ci := 0) (v := .ref (ad 8)) hx hb hts mi_all hown hK hP 0 rfl rfl 9 (by decide) (hts _ mk_depth) (fun _ h9 => h9) rfl hdg kk
theorem mk_holds : Cond.fieldLink RXM 38 RXM "holds" "[J" ∈ lg_tbl := fx_m (by decide +kernel)
theorem mg_holds (hx : p.tables.exec = Jvm.exec) (hb : c.code = cc) (hown : s.vm.findClass RXM = some m.cls) (hts : ∀ w ∈ lg_tbl, w.before args s = true) (hK : va_K D vwCl (mTy cI cL) s) (hP : mW D h0 ad cI cL (I, J, cn, cm, so) H) (hdg : decode cc pc = .ok (.getfield 38, 3)) (kk : W p l e R s m args below meth c H locs cells slots Q (F0 m (pc + 3) ls (.ref (ad 9) :: rest))) : W p l e R s m args below meth c H locs cells slots Q (F0 m pc ls (.ref h0 :: rest)) := va_get (own := RXM) (ref := RXM) (C := RXM) (T := TXM) (N := 22) (ci := 0) (v := .ref (ad 9)) hx hb hts mi_all hown hK hP 0 rfl rfl 10 (by decide) (hts _ mk_holds) (fun _ h9 => h9) rfl hdg kk
theorem mk_waits : Cond.fieldLink RXM 41 RXM "waits" "[I" ∈ lg_tbl := fx_m (by decide +kernel)
theorem mg_waits (hx : p.tables.exec = Jvm.exec) (hb : c.code = cc) (hown : s.vm.findClass RXM = some m.cls) (hts : ∀ w ∈ lg_tbl, w.before args s = true) (hK : va_K D vwCl (mTy cI cL) s) (hP : mW D h0 ad cI cL (I, J, cn, cm, so) H) (hdg : decode cc pc = .ok (.getfield 41, 3)) (kk : W p l e R s m args below meth c H locs cells slots Q (F0 m (pc + 3) ls (.ref (ad 10) :: rest))) : W p l e R s m args below meth c H locs cells slots Q (F0 m pc ls (.ref h0 :: rest)) := va_get (own := RXM) (ref := RXM) (C := RXM) (T := TXM) (N := 22) (ci := 0) (v := .ref (ad 10)) hx hb hts mi_all hown hK hP 0 rfl rfl 11 (by decide) (hts _ mk_waits) (fun _ h9 => h9) rfl hdg kk
theorem mk_waitHash : Cond.fieldLink RXM 44 RXM "waitHash" "[J" ∈ lg_tbl := fx_m (by decide +kernel)
theorem mg_waitHash (hx : p.tables.exec = Jvm.exec) (hb : c.code = cc) (hown : s.vm.findClass RXM = some m.cls) (hts : ∀ w ∈ lg_tbl, w.before args s = true) (hK : va_K D vwCl (mTy cI cL) s) (hP : mW D h0 ad cI cL (I, J, cn, cm, so) H) (hdg : decode cc pc = .ok (.getfield 44, 3)) (kk : W p l e R s m args below meth c H locs cells slots Q (F0 m (pc + 3) ls (.ref (ad 11) :: rest))) : W p l e R s m args below meth c H locs cells slots Q (F0 m pc ls (.ref h0 :: rest)) := va_get (own := RXM) (ref := RXM) (C := RXM) (T := TXM) (N := 22) (ci := 0) (v := .ref (ad 11)) hx hb hts mi_all hown hK hP 0 rfl rfl 12 (by decide) (hts _ mk_waitHash) (fun _ h9 => h9) rfl hdg kk
theorem mk_waitNumbers : Cond.fieldLink RXM 47 RXM "waitNumbers" "[I" ∈ lg_tbl := fx_m (by decide +kernel)
theorem mg_waitNumbers (hx : p.tables.exec = Jvm.exec) (hb : c.code = cc) (hown : s.vm.findClass RXM = some m.cls) (hts : ∀ w ∈ lg_tbl, w.before args s = true) (hK : va_K D vwCl (mTy cI cL) s) (hP : mW D h0 ad cI cL (I, J, cn, cm, so) H) (hdg : decode cc pc = .ok (.getfield 47, 3)) (kk : W p l e R s m args below meth c H locs cells slots Q (F0 m (pc + 3) ls (.ref (ad 12) :: rest))) : W p l e R s m args below meth c H locs cells slots Q (F0 m pc ls (.ref h0 :: rest)) := va_get (own := RXM) (ref := RXM) (C := RXM) (T := TXM) (N := 22) (ci := 0) (v := .ref (ad 12)) hx hb hts mi_all hown hK hP 0 rfl rfl 13 (by decide) (hts _ mk_waitNumbers) (fun _ h9 => h9) rfl hdg kk
theorem mk_waitLink : Cond.fieldLink RXM 50 RXM "waitLink" "[J" ∈ lg_tbl := fx_m (by decide +kernel)
theorem mg_waitLink (hx : p.tables.exec = Jvm.exec) (hb : c.code = cc) (hown : s.vm.findClass RXM = some m.cls) (hts : ∀ w ∈ lg_tbl, w.before args s = true) (hK : va_K D vwCl (mTy cI cL) s) (hP : mW D h0 ad cI cL (I, J, cn, cm, so) H) (hdg : decode cc pc = .ok (.getfield 50, 3)) (kk : W p l e R s m args below meth c H locs cells slots Q (F0 m (pc + 3) ls (.ref (ad 13) :: rest))) : W p l e R s m args below meth c H locs cells slots Q (F0 m pc ls (.ref h0 :: rest)) := va_get (own := RXM) (ref := RXM) (C := RXM) (T := TXM) (N := 22) (ci := 0) (v := .ref (ad 13)) hx hb hts mi_all hown hK hP 0 rfl rfl 14 (by decide) (hts _ mk_waitLink) (fun _ h9 => h9) rfl hdg kk
theorem mk_draftNumbers : Cond.fieldLink RXM 53 RXM "draftNumbers" "[I" ∈ lg_tbl := fx_m (by decide +kernel)
theorem mg_draftNumbers (hx : p.tables.exec = Jvm.exec) (hb : c.code = cc) (hown : s.vm.findClass RXM = some m.cls) (hts : ∀ w ∈ lg_tbl, w.before args s = true) (hK : va_K D vwCl (mTy cI cL) s) (hP : mW D h0 ad cI cL (I, J, cn, cm, so) H) (hdg : decode cc pc = .ok (.getfield 53, 3)) (kk : W p l e R s m args below meth c H locs cells slots Q (F0 m (pc + 3) ls (.ref (ad 14) :: rest))) : W p l e R s m args below meth c H locs cells slots Q (F0 m pc ls (.ref h0 :: rest)) := va_get (own := RXM) (ref := RXM) (C := RXM) (T := TXM) (N := 22) (ci := 0) (v := .ref (ad 14)) hx hb hts mi_all hown hK hP 0 rfl rfl 15 (by decide) (hts _ mk_draftNumbers) (fun _ h9 => h9) rfl hdg kk
theorem mk_draftLink : Cond.fieldLink RXM 56 RXM "draftLink" "[J" ∈ lg_tbl := fx_m (by decide +kernel)
theorem mg_draftLink (hx : p.tables.exec = Jvm.exec) (hb : c.code = cc) (hown : s.vm.findClass RXM = some m.cls) (hts : ∀ w ∈ lg_tbl, w.before args s = true) (hK : va_K D vwCl (mTy cI cL) s) (hP : mW D h0 ad cI cL (I, J, cn, cm, so) H) (hdg : decode cc pc = .ok (.getfield 56, 3)) (kk : W p l e R s m args below meth c H locs cells slots Q (F0 m (pc + 3) ls (.ref (ad 15) :: rest))) : W p l e R s m args below meth c H locs cells slots Q (F0 m pc ls (.ref h0 :: rest)) := va_get (own := RXM) (ref := RXM) (C := RXM) (T := TXM) (N := 22) (ci := 0) (v := .ref (ad 15)) hx hb hts mi_all hown hK hP 0 rfl rfl 16 (by decide) (hts _ mk_draftLink) (fun _ h9 => h9) rfl hdg kk
theorem mk_numbers : Cond.fieldLink RXM 59 RXM "numbers" "[I" ∈ lg_tbl := fx_m (by decide +kernel)
theorem mg_numbers (hx : p.tables.exec = Jvm.exec) (hb : c.code = cc) (hown : s.vm.findClass RXM = some m.cls) (hts : ∀ w ∈ lg_tbl, w.before args s = true) (hK : va_K D vwCl (mTy cI cL) s) (hP : mW D h0 ad cI cL (I, J, cn, cm, so) H) (hdg : decode cc pc = .ok (.getfield 59, 3)) (kk : W p l e R s m args below meth c H locs cells slots Q (F0 m (pc + 3) ls (.ref (ad 16) :: rest))) : W p l e R s m args below meth c H locs cells slots Q (F0 m pc ls (.ref h0 :: rest)) := va_get (own := RXM) (ref := RXM) (C := RXM) (T := TXM) (N := 22) (ci := 0) (v := .ref (ad 16)) hx hb hts mi_all hown hK hP 0 rfl rfl 17 (by decide) (hts _ mk_numbers) (fun _ h9 => h9) rfl hdg kk
theorem mk_comingLink : Cond.fieldLink RXM 62 RXM "comingLink" "[J" ∈ lg_tbl := fx_m (by decide +kernel)
theorem mg_comingLink (hx : p.tables.exec = Jvm.exec) (hb : c.code = cc) (hown : s.vm.findClass RXM = some m.cls) (hts : ∀ w ∈ lg_tbl, w.before args s = true) (hK : va_K D vwCl (mTy cI cL) s) (hP : mW D h0 ad cI cL (I, J, cn, cm, so) H) (hdg : decode cc pc = .ok (.getfield 62, 3)) (kk : W p l e R s m args below meth c H locs cells slots Q (F0 m (pc + 3) ls (.ref (ad 17) :: rest))) : W p l e R s m args below meth c H locs cells slots Q (F0 m pc ls (.ref h0 :: rest)) := va_get (own := RXM) (ref := RXM) (C := RXM) (T := TXM) (N := 22) (ci := 0) (v := .ref (ad 17)) hx hb hts mi_all hown hK hP 0 rfl rfl 18 (by decide) (hts _ mk_comingLink) (fun _ h9 => h9) rfl hdg kk
theorem mk_coming : Cond.fieldLink RXM 80 RXM "coming" "J" ∈ lg_tbl := fx_m (by decide +kernel)
theorem mg_coming (hx : p.tables.exec = Jvm.exec) (hb : c.code = cc) (hown : s.vm.findClass RXM = some m.cls) (hts : ∀ w ∈ lg_tbl, w.before args s = true) (hK : va_K D vwCl (mTy cI cL) s) (hP : mW D h0 ad cI cL (I, J, cn, cm, so) H) (hdg : decode cc pc = .ok (.getfield 80, 3)) (kk : W p l e R s m args below meth c H locs cells slots Q (F0 m (pc + 3) ls (.long cm :: rest))) : W p l e R s m args below meth c H locs cells slots Q (F0 m pc ls (.ref h0 :: rest)) := va_get (own := RXM) (ref := RXM) (C := RXM) (T := TXM) (N := 22) (ci := 0) (v := .long cm) hx hb hts mi_all hown hK hP 0 rfl rfl 19 (by decide) (hts _ mk_coming) (fun _ h9 => h9) rfl hdg kk
theorem mp_coming (hx : p.tables.exec = Jvm.exec) (hb : c.code = cc) (hown : s.vm.findClass RXM = some m.cls) (hts : ∀ w ∈ lg_tbl, w.before args s = true) (hK : va_K D vwCl (mTy cI cL) s) (hD : mDs A h0 ad cI cL) (hP : mW D h0 ad cI cL (I, J, cn, cm, so) H) (hS : va_S A H0 H locs) {x : Int64} (hdg : decode cc pc = .ok (.putfield 80, 3)) (kk : ∀ (H1 : Heap) (locs1 : List Loc), mW D h0 ad cI cL (I, J, cn, x, so) H1 → va_S A H0 H1 locs1 → W p l e R s m args below meth c H1 locs1 cells slots Q (F0 m (pc + 3) ls rest)) : W p l e R s m args below meth c H locs cells slots Q (F0 m pc ls (.long x :: .ref h0 :: rest)) := va_put (own := RXM) (ref := RXM) (C := RXM) (T := TXM) (N := 22) (ci := 0) (v := .long x) (ty := .long) hx hb hts mi_all tyXM mi_ty mi_nm hown hK hP (hD _) hS 0 rfl rfl 19 (by decide) (hts _ mk_coming) (fun _ h9 => h9) rfl (by decide +kernel) rfl rfl (Nat.le_of_ble_eq_true rfl) hdg (fun H1 locs1 h1 _ h3 => kk H1 locs1 h1 h3)
theorem mk_sorted : Cond.fieldLink RXM 138 RXM "sorted" "I" ∈ lg_tbl := fx_m (by decide +kernel)
theorem mg_sorted (hx : p.tables.exec = Jvm.exec) (hb : c.code = cc) (hown : s.vm.findClass RXM = some m.cls) (hts : ∀ w ∈ lg_tbl, w.before args s = true) (hK : va_K D vwCl (mTy cI cL) s) (hP : mW D h0 ad cI cL (I, J, cn, cm, so) H) (hdg : decode cc pc = .ok (.getfield 138, 3)) (kk : W p l e R s m args below meth c H locs cells slots Q (F0 m (pc + 3) ls (.int so :: rest))) : W p l e R s m args below meth c H locs cells slots Q (F0 m pc ls (.ref h0 :: rest)) := va_get (own := RXM) (ref := RXM) (C := RXM) (T := TXM) (N := 22) (ci := 0) (v := .int so) hx hb hts mi_all hown hK hP 0 rfl rfl 20 (by decide) (hts _ mk_sorted) (fun _ h9 => h9) rfl hdg kk
theorem mp_sorted (hx : p.tables.exec = Jvm.exec) (hb : c.code = cc) (hown : s.vm.findClass RXM = some m.cls) (hts : ∀ w ∈ lg_tbl, w.before args s = true) (hK : va_K D vwCl (mTy cI cL) s) (hD : mDs A h0 ad cI cL) (hP : mW D h0 ad cI cL (I, J, cn, cm, so) H) (hS : va_S A H0 H locs) {x : Int32} (hdg : decode cc pc = .ok (.putfield 138, 3)) (kk : ∀ (H1 : Heap) (locs1 : List Loc), mW D h0 ad cI cL (I, J, cn, cm, x) H1 → va_S A H0 H1 locs1 → W p l e R s m args below meth c H1 locs1 cells slots Q (F0 m (pc + 3) ls rest)) : W p l e R s m args below meth c H locs cells slots Q (F0 m pc ls (.int x :: .ref h0 :: rest)) := va_put (own := RXM) (ref := RXM) (C := RXM) (T := TXM) (N := 22) (ci := 0) (v := .int x) (ty := .int) hx hb hts mi_all tyXM mi_ty mi_nm hown hK hP (hD _) hS 0 rfl rfl 20 (by decide) (hts _ mk_sorted) (fun _ h9 => h9) rfl (by decide +kernel) rfl rfl (Nat.le_of_ble_eq_true rfl) hdg (fun H1 locs1 h1 _ h3 => kk H1 locs1 h1 h3)
theorem mk_order : Cond.fieldLink RXM 65 RXM "order" "[I" ∈ lg_tbl := fx_m (by decide +kernel)
theorem mg_order (hx : p.tables.exec = Jvm.exec) (hb : c.code = cc) (hown : s.vm.findClass RXM = some m.cls) (hts : ∀ w ∈ lg_tbl, w.before args s = true) (hK : va_K D vwCl (mTy cI cL) s) (hP : mW D h0 ad cI cL (I, J, cn, cm, so) H) (hdg : decode cc pc = .ok (.getfield 65, 3)) (kk : W p l e R s m args below meth c H locs cells slots Q (F0 m (pc + 3) ls (.ref (ad 18) :: rest))) : W p l e R s m args below meth c H locs cells slots Q (F0 m pc ls (.ref h0 :: rest)) := va_get (own := RXM) (ref := RXM) (C := RXM) (T := TXM) (N := 22) (ci := 0) (v := .ref (ad 18)) hx hb hts mi_all hown hK hP 0 rfl rfl 21 (by decide) (hts _ mk_order) (fun _ h9 => h9) rfl hdg kk
theorem ma_0 (hx : p.tables.exec = Jvm.exec) (hb : c.code = cc) (hK : va_K D vwCl (mTy cI cL) s) (hP : mW D h0 ad cI cL (I, J, cn, cm, so) H) {i : Int32} (hin : vp_in i 40) (hdg : decode cc pc = .ok (.laload, 1)) (kk : W p l e R s m args below meth c H locs cells slots Q (F0 m (pc + 1) ls (.long (J 0 i.toNatClampNeg) :: rest))) : W p l e R s m args below meth c H locs cells slots Q (F0 m pc ls (.int i :: .ref (ad 0) :: rest)) := va_lald hx hb hK hP 1 1 rfl rfl hin hdg kk
theorem ms_0 (hx : p.tables.exec = Jvm.exec) (hb : c.code = cc) (hK : va_K D vwCl (mTy cI cL) s) (hD : mDs A h0 ad cI cL) (hP : mW D h0 ad cI cL (I, J, cn, cm, so) H) (hS : va_S A H0 H locs) {i : Int32} {x : Int64} (hin : vp_in i 40) (hdg : decode cc pc = .ok (.lastore, 1)) (kk : ∀ (H1 : Heap) (locs1 : List Loc), mW D h0 ad cI cL (I, mj_up J 0 i.toNatClampNeg x, cn, cm, so) H1 → va_S A H0 H1 locs1 → W p l e R s m args below meth c H1 locs1 cells slots Q (F0 m (pc + 1) ls rest)) : W p l e R s m args below meth c H locs cells slots Q (F0 m pc ls (.long x :: .int i :: .ref (ad 0) :: rest)) := va_last hx hb hK hP (hD _) hS 1 1 rfl rfl hin hdg (fun H1 locs1 h1 _ h3 => kk H1 locs1 h1 h3)
theorem ma_1 (hx : p.tables.exec = Jvm.exec) (hb : c.code = cc) (hK : va_K D vwCl (mTy cI cL) s) (hP : mW D h0 ad cI cL (I, J, cn, cm, so) H) {i : Int32} (hin : vp_in i 40) (hdg : decode cc pc = .ok (.iaload, 1)) (kk : W p l e R s m args below meth c H locs cells slots Q (F0 m (pc + 1) ls (.int (I 0 i.toNatClampNeg) :: rest))) : W p l e R s m args below meth c H locs cells slots Q (F0 m pc ls (.int i :: .ref (ad 1) :: rest)) := va_iald hx hb hK hP 2 0 rfl rfl hin hdg kk
theorem ms_1 (hx : p.tables.exec = Jvm.exec) (hb : c.code = cc) (hK : va_K D vwCl (mTy cI cL) s) (hD : mDs A h0 ad cI cL) (hP : mW D h0 ad cI cL (I, J, cn, cm, so) H) (hS : va_S A H0 H locs) {i : Int32} {x : Int32} (hin : vp_in i 40) (hdg : decode cc pc = .ok (.iastore, 1)) (kk : ∀ (H1 : Heap) (locs1 : List Loc), mW D h0 ad cI cL (mi_up I 0 i.toNatClampNeg x, J, cn, cm, so) H1 → va_S A H0 H1 locs1 → W p l e R s m args below meth c H1 locs1 cells slots Q (F0 m (pc + 1) ls rest)) : W p l e R s m args below meth c H locs cells slots Q (F0 m pc ls (.int x :: .int i :: .ref (ad 1) :: rest)) := va_iast hx hb hK hP (hD _) hS 2 0 rfl rfl hin hdg (fun H1 locs1 h1 _ h3 => kk H1 locs1 h1 h3)
theorem ma_2 (hx : p.tables.exec = Jvm.exec) (hb : c.code = cc) (hK : va_K D vwCl (mTy cI cL) s) (hP : mW D h0 ad cI cL (I, J, cn, cm, so) H) {i : Int32} (hin : vp_in i 40) (hdg : decode cc pc = .ok (.iaload, 1)) (kk : W p l e R s m args below meth c H locs cells slots Q (F0 m (pc + 1) ls (.int (I 1 i.toNatClampNeg) :: rest))) : W p l e R s m args below meth c H locs cells slots Q (F0 m pc ls (.int i :: .ref (ad 2) :: rest)) := va_iald hx hb hK hP 3 0 rfl rfl hin hdg kk
theorem ms_2 (hx : p.tables.exec = Jvm.exec) (hb : c.code = cc) (hK : va_K D vwCl (mTy cI cL) s) (hD : mDs A h0 ad cI cL) (hP : mW D h0 ad cI cL (I, J, cn, cm, so) H) (hS : va_S A H0 H locs) {i : Int32} {x : Int32} (hin : vp_in i 40) (hdg : decode cc pc = .ok (.iastore, 1)) (kk : ∀ (H1 : Heap) (locs1 : List Loc), mW D h0 ad cI cL (mi_up I 1 i.toNatClampNeg x, J, cn, cm, so) H1 → va_S A H0 H1 locs1 → W p l e R s m args below meth c H1 locs1 cells slots Q (F0 m (pc + 1) ls rest)) : W p l e R s m args below meth c H locs cells slots Q (F0 m pc ls (.int x :: .int i :: .ref (ad 2) :: rest)) := va_iast hx hb hK hP (hD _) hS 3 0 rfl rfl hin hdg (fun H1 locs1 h1 _ h3 => kk H1 locs1 h1 h3)
theorem ma_3 (hx : p.tables.exec = Jvm.exec) (hb : c.code = cc) (hK : va_K D vwCl (mTy cI cL) s) (hP : mW D h0 ad cI cL (I, J, cn, cm, so) H) {i : Int32} (hin : vp_in i 40) (hdg : decode cc pc = .ok (.iaload, 1)) (kk : W p l e R s m args below meth c H locs cells slots Q (F0 m (pc + 1) ls (.int (I 2 i.toNatClampNeg) :: rest))) : W p l e R s m args below meth c H locs cells slots Q (F0 m pc ls (.int i :: .ref (ad 3) :: rest)) := va_iald hx hb hK hP 4 0 rfl rfl hin hdg kk
theorem ms_3 (hx : p.tables.exec = Jvm.exec) (hb : c.code = cc) (hK : va_K D vwCl (mTy cI cL) s) (hD : mDs A h0 ad cI cL) (hP : mW D h0 ad cI cL (I, J, cn, cm, so) H) (hS : va_S A H0 H locs) {i : Int32} {x : Int32} (hin : vp_in i 40) (hdg : decode cc pc = .ok (.iastore, 1)) (kk : ∀ (H1 : Heap) (locs1 : List Loc), mW D h0 ad cI cL (mi_up I 2 i.toNatClampNeg x, J, cn, cm, so) H1 → va_S A H0 H1 locs1 → W p l e R s m args below meth c H1 locs1 cells slots Q (F0 m (pc + 1) ls rest)) : W p l e R s m args below meth c H locs cells slots Q (F0 m pc ls (.int x :: .int i :: .ref (ad 3) :: rest)) := va_iast hx hb hK hP (hD _) hS 4 0 rfl rfl hin hdg (fun H1 locs1 h1 _ h3 => kk H1 locs1 h1 h3)
theorem ma_4 (hx : p.tables.exec = Jvm.exec) (hb : c.code = cc) (hK : va_K D vwCl (mTy cI cL) s) (hP : mW D h0 ad cI cL (I, J, cn, cm, so) H) {i : Int32} (hin : vp_in i 40) (hdg : decode cc pc = .ok (.iaload, 1)) (kk : W p l e R s m args below meth c H locs cells slots Q (F0 m (pc + 1) ls (.int (I 3 i.toNatClampNeg) :: rest))) : W p l e R s m args below meth c H locs cells slots Q (F0 m pc ls (.int i :: .ref (ad 4) :: rest)) := va_iald hx hb hK hP 5 0 rfl rfl hin hdg kk
theorem ms_4 (hx : p.tables.exec = Jvm.exec) (hb : c.code = cc) (hK : va_K D vwCl (mTy cI cL) s) (hD : mDs A h0 ad cI cL) (hP : mW D h0 ad cI cL (I, J, cn, cm, so) H) (hS : va_S A H0 H locs) {i : Int32} {x : Int32} (hin : vp_in i 40) (hdg : decode cc pc = .ok (.iastore, 1)) (kk : ∀ (H1 : Heap) (locs1 : List Loc), mW D h0 ad cI cL (mi_up I 3 i.toNatClampNeg x, J, cn, cm, so) H1 → va_S A H0 H1 locs1 → W p l e R s m args below meth c H1 locs1 cells slots Q (F0 m (pc + 1) ls rest)) : W p l e R s m args below meth c H locs cells slots Q (F0 m pc ls (.int x :: .int i :: .ref (ad 4) :: rest)) := va_iast hx hb hK hP (hD _) hS 5 0 rfl rfl hin hdg (fun H1 locs1 h1 _ h3 => kk H1 locs1 h1 h3)
theorem ma_5 (hx : p.tables.exec = Jvm.exec) (hb : c.code = cc) (hK : va_K D vwCl (mTy cI cL) s) (hP : mW D h0 ad cI cL (I, J, cn, cm, so) H) {i : Int32} (hin : vp_in i 40) (hdg : decode cc pc = .ok (.iaload, 1)) (kk : W p l e R s m args below meth c H locs cells slots Q (F0 m (pc + 1) ls (.int (I 4 i.toNatClampNeg) :: rest))) : W p l e R s m args below meth c H locs cells slots Q (F0 m pc ls (.int i :: .ref (ad 5) :: rest)) := va_iald hx hb hK hP 6 0 rfl rfl hin hdg kk
theorem ms_5 (hx : p.tables.exec = Jvm.exec) (hb : c.code = cc) (hK : va_K D vwCl (mTy cI cL) s) (hD : mDs A h0 ad cI cL) (hP : mW D h0 ad cI cL (I, J, cn, cm, so) H) (hS : va_S A H0 H locs) {i : Int32} {x : Int32} (hin : vp_in i 40) (hdg : decode cc pc = .ok (.iastore, 1)) (kk : ∀ (H1 : Heap) (locs1 : List Loc), mW D h0 ad cI cL (mi_up I 4 i.toNatClampNeg x, J, cn, cm, so) H1 → va_S A H0 H1 locs1 → W p l e R s m args below meth c H1 locs1 cells slots Q (F0 m (pc + 1) ls rest)) : W p l e R s m args below meth c H locs cells slots Q (F0 m pc ls (.int x :: .int i :: .ref (ad 5) :: rest)) := va_iast hx hb hK hP (hD _) hS 6 0 rfl rfl hin hdg (fun H1 locs1 h1 _ h3 => kk H1 locs1 h1 h3)
theorem ma_6 (hx : p.tables.exec = Jvm.exec) (hb : c.code = cc) (hK : va_K D vwCl (mTy cI cL) s) (hP : mW D h0 ad cI cL (I, J, cn, cm, so) H) {i : Int32} (hin : vp_in i 160) (hdg : decode cc pc = .ok (.laload, 1)) (kk : W p l e R s m args below meth c H locs cells slots Q (F0 m (pc + 1) ls (.long (J 1 i.toNatClampNeg) :: rest))) : W p l e R s m args below meth c H locs cells slots Q (F0 m pc ls (.int i :: .ref (ad 6) :: rest)) := va_lald hx hb hK hP 7 1 rfl rfl hin hdg kk
theorem ms_6 (hx : p.tables.exec = Jvm.exec) (hb : c.code = cc) (hK : va_K D vwCl (mTy cI cL) s) (hD : mDs A h0 ad cI cL) (hP : mW D h0 ad cI cL (I, J, cn, cm, so) H) (hS : va_S A H0 H locs) {i : Int32} {x : Int64} (hin : vp_in i 160) (hdg : decode cc pc = .ok (.lastore, 1)) (kk : ∀ (H1 : Heap) (locs1 : List Loc), mW D h0 ad cI cL (I, mj_up J 1 i.toNatClampNeg x, cn, cm, so) H1 → va_S A H0 H1 locs1 → W p l e R s m args below meth c H1 locs1 cells slots Q (F0 m (pc + 1) ls rest)) : W p l e R s m args below meth c H locs cells slots Q (F0 m pc ls (.long x :: .int i :: .ref (ad 6) :: rest)) := va_last hx hb hK hP (hD _) hS 7 1 rfl rfl hin hdg (fun H1 locs1 h1 _ h3 => kk H1 locs1 h1 h3)
theorem ma_7 (hx : p.tables.exec = Jvm.exec) (hb : c.code = cc) (hK : va_K D vwCl (mTy cI cL) s) (hP : mW D h0 ad cI cL (I, J, cn, cm, so) H) {i : Int32} (hin : vp_in i 40) (hdg : decode cc pc = .ok (.laload, 1)) (kk : W p l e R s m args below meth c H locs cells slots Q (F0 m (pc + 1) ls (.long (J 2 i.toNatClampNeg) :: rest))) : W p l e R s m args below meth c H locs cells slots Q (F0 m pc ls (.int i :: .ref (ad 7) :: rest)) := va_lald hx hb hK hP 8 1 rfl rfl hin hdg kk
theorem ms_7 (hx : p.tables.exec = Jvm.exec) (hb : c.code = cc) (hK : va_K D vwCl (mTy cI cL) s) (hD : mDs A h0 ad cI cL) (hP : mW D h0 ad cI cL (I, J, cn, cm, so) H) (hS : va_S A H0 H locs) {i : Int32} {x : Int64} (hin : vp_in i 40) (hdg : decode cc pc = .ok (.lastore, 1)) (kk : ∀ (H1 : Heap) (locs1 : List Loc), mW D h0 ad cI cL (I, mj_up J 2 i.toNatClampNeg x, cn, cm, so) H1 → va_S A H0 H1 locs1 → W p l e R s m args below meth c H1 locs1 cells slots Q (F0 m (pc + 1) ls rest)) : W p l e R s m args below meth c H locs cells slots Q (F0 m pc ls (.long x :: .int i :: .ref (ad 7) :: rest)) := va_last hx hb hK hP (hD _) hS 8 1 rfl rfl hin hdg (fun H1 locs1 h1 _ h3 => kk H1 locs1 h1 h3)
theorem ma_8 (hx : p.tables.exec = Jvm.exec) (hb : c.code = cc) (hK : va_K D vwCl (mTy cI cL) s) (hP : mW D h0 ad cI cL (I, J, cn, cm, so) H) {i : Int32} (hin : vp_in i 40) (hdg : decode cc pc = .ok (.iaload, 1)) (kk : W p l e R s m args below meth c H locs cells slots Q (F0 m (pc + 1) ls (.int (I 5 i.toNatClampNeg) :: rest))) : W p l e R s m args below meth c H locs cells slots Q (F0 m pc ls (.int i :: .ref (ad 8) :: rest)) := va_iald hx hb hK hP 9 0 rfl rfl hin hdg kk
theorem ms_8 (hx : p.tables.exec = Jvm.exec) (hb : c.code = cc) (hK : va_K D vwCl (mTy cI cL) s) (hD : mDs A h0 ad cI cL) (hP : mW D h0 ad cI cL (I, J, cn, cm, so) H) (hS : va_S A H0 H locs) {i : Int32} {x : Int32} (hin : vp_in i 40) (hdg : decode cc pc = .ok (.iastore, 1)) (kk : ∀ (H1 : Heap) (locs1 : List Loc), mW D h0 ad cI cL (mi_up I 5 i.toNatClampNeg x, J, cn, cm, so) H1 → va_S A H0 H1 locs1 → W p l e R s m args below meth c H1 locs1 cells slots Q (F0 m (pc + 1) ls rest)) : W p l e R s m args below meth c H locs cells slots Q (F0 m pc ls (.int x :: .int i :: .ref (ad 8) :: rest)) := va_iast hx hb hK hP (hD _) hS 9 0 rfl rfl hin hdg (fun H1 locs1 h1 _ h3 => kk H1 locs1 h1 h3)
theorem ma_9 (hx : p.tables.exec = Jvm.exec) (hb : c.code = cc) (hK : va_K D vwCl (mTy cI cL) s) (hP : mW D h0 ad cI cL (I, J, cn, cm, so) H) {i : Int32} (hin : vp_in i 4) (hdg : decode cc pc = .ok (.laload, 1)) (kk : W p l e R s m args below meth c H locs cells slots Q (F0 m (pc + 1) ls (.long (J 3 i.toNatClampNeg) :: rest))) : W p l e R s m args below meth c H locs cells slots Q (F0 m pc ls (.int i :: .ref (ad 9) :: rest)) := va_lald hx hb hK hP 10 1 rfl rfl hin hdg kk
theorem ms_9 (hx : p.tables.exec = Jvm.exec) (hb : c.code = cc) (hK : va_K D vwCl (mTy cI cL) s) (hD : mDs A h0 ad cI cL) (hP : mW D h0 ad cI cL (I, J, cn, cm, so) H) (hS : va_S A H0 H locs) {i : Int32} {x : Int64} (hin : vp_in i 4) (hdg : decode cc pc = .ok (.lastore, 1)) (kk : ∀ (H1 : Heap) (locs1 : List Loc), mW D h0 ad cI cL (I, mj_up J 3 i.toNatClampNeg x, cn, cm, so) H1 → va_S A H0 H1 locs1 → W p l e R s m args below meth c H1 locs1 cells slots Q (F0 m (pc + 1) ls rest)) : W p l e R s m args below meth c H locs cells slots Q (F0 m pc ls (.long x :: .int i :: .ref (ad 9) :: rest)) := va_last hx hb hK hP (hD _) hS 10 1 rfl rfl hin hdg (fun H1 locs1 h1 _ h3 => kk H1 locs1 h1 h3)
theorem ma_10 (hx : p.tables.exec = Jvm.exec) (hb : c.code = cc) (hK : va_K D vwCl (mTy cI cL) s) (hP : mW D h0 ad cI cL (I, J, cn, cm, so) H) {i : Int32} (hin : vp_in i 4) (hdg : decode cc pc = .ok (.iaload, 1)) (kk : W p l e R s m args below meth c H locs cells slots Q (F0 m (pc + 1) ls (.int (I 6 i.toNatClampNeg) :: rest))) : W p l e R s m args below meth c H locs cells slots Q (F0 m pc ls (.int i :: .ref (ad 10) :: rest)) := va_iald hx hb hK hP 11 0 rfl rfl hin hdg kk
theorem ms_10 (hx : p.tables.exec = Jvm.exec) (hb : c.code = cc) (hK : va_K D vwCl (mTy cI cL) s) (hD : mDs A h0 ad cI cL) (hP : mW D h0 ad cI cL (I, J, cn, cm, so) H) (hS : va_S A H0 H locs) {i : Int32} {x : Int32} (hin : vp_in i 4) (hdg : decode cc pc = .ok (.iastore, 1)) (kk : ∀ (H1 : Heap) (locs1 : List Loc), mW D h0 ad cI cL (mi_up I 6 i.toNatClampNeg x, J, cn, cm, so) H1 → va_S A H0 H1 locs1 → W p l e R s m args below meth c H1 locs1 cells slots Q (F0 m (pc + 1) ls rest)) : W p l e R s m args below meth c H locs cells slots Q (F0 m pc ls (.int x :: .int i :: .ref (ad 10) :: rest)) := va_iast hx hb hK hP (hD _) hS 11 0 rfl rfl hin hdg (fun H1 locs1 h1 _ h3 => kk H1 locs1 h1 h3)
theorem ma_11 (hx : p.tables.exec = Jvm.exec) (hb : c.code = cc) (hK : va_K D vwCl (mTy cI cL) s) (hP : mW D h0 ad cI cL (I, J, cn, cm, so) H) {i : Int32} (hin : vp_in i 24) (hdg : decode cc pc = .ok (.laload, 1)) (kk : W p l e R s m args below meth c H locs cells slots Q (F0 m (pc + 1) ls (.long (J 4 i.toNatClampNeg) :: rest))) : W p l e R s m args below meth c H locs cells slots Q (F0 m pc ls (.int i :: .ref (ad 11) :: rest)) := va_lald hx hb hK hP 12 1 rfl rfl hin hdg kk
theorem ms_11 (hx : p.tables.exec = Jvm.exec) (hb : c.code = cc) (hK : va_K D vwCl (mTy cI cL) s) (hD : mDs A h0 ad cI cL) (hP : mW D h0 ad cI cL (I, J, cn, cm, so) H) (hS : va_S A H0 H locs) {i : Int32} {x : Int64} (hin : vp_in i 24) (hdg : decode cc pc = .ok (.lastore, 1)) (kk : ∀ (H1 : Heap) (locs1 : List Loc), mW D h0 ad cI cL (I, mj_up J 4 i.toNatClampNeg x, cn, cm, so) H1 → va_S A H0 H1 locs1 → W p l e R s m args below meth c H1 locs1 cells slots Q (F0 m (pc + 1) ls rest)) : W p l e R s m args below meth c H locs cells slots Q (F0 m pc ls (.long x :: .int i :: .ref (ad 11) :: rest)) := va_last hx hb hK hP (hD _) hS 12 1 rfl rfl hin hdg (fun H1 locs1 h1 _ h3 => kk H1 locs1 h1 h3)
theorem ma_12 (hx : p.tables.exec = Jvm.exec) (hb : c.code = cc) (hK : va_K D vwCl (mTy cI cL) s) (hP : mW D h0 ad cI cL (I, J, cn, cm, so) H) {i : Int32} (hin : vp_in i 120) (hdg : decode cc pc = .ok (.iaload, 1)) (kk : W p l e R s m args below meth c H locs cells slots Q (F0 m (pc + 1) ls (.int (I 7 i.toNatClampNeg) :: rest))) : W p l e R s m args below meth c H locs cells slots Q (F0 m pc ls (.int i :: .ref (ad 12) :: rest)) := va_iald hx hb hK hP 13 0 rfl rfl hin hdg kk
theorem ms_12 (hx : p.tables.exec = Jvm.exec) (hb : c.code = cc) (hK : va_K D vwCl (mTy cI cL) s) (hD : mDs A h0 ad cI cL) (hP : mW D h0 ad cI cL (I, J, cn, cm, so) H) (hS : va_S A H0 H locs) {i : Int32} {x : Int32} (hin : vp_in i 120) (hdg : decode cc pc = .ok (.iastore, 1)) (kk : ∀ (H1 : Heap) (locs1 : List Loc), mW D h0 ad cI cL (mi_up I 7 i.toNatClampNeg x, J, cn, cm, so) H1 → va_S A H0 H1 locs1 → W p l e R s m args below meth c H1 locs1 cells slots Q (F0 m (pc + 1) ls rest)) : W p l e R s m args below meth c H locs cells slots Q (F0 m pc ls (.int x :: .int i :: .ref (ad 12) :: rest)) := va_iast hx hb hK hP (hD _) hS 13 0 rfl rfl hin hdg (fun H1 locs1 h1 _ h3 => kk H1 locs1 h1 h3)
theorem ma_13 (hx : p.tables.exec = Jvm.exec) (hb : c.code = cc) (hK : va_K D vwCl (mTy cI cL) s) (hP : mW D h0 ad cI cL (I, J, cn, cm, so) H) {i : Int32} (hin : vp_in i 96) (hdg : decode cc pc = .ok (.laload, 1)) (kk : W p l e R s m args below meth c H locs cells slots Q (F0 m (pc + 1) ls (.long (J 5 i.toNatClampNeg) :: rest))) : W p l e R s m args below meth c H locs cells slots Q (F0 m pc ls (.int i :: .ref (ad 13) :: rest)) := va_lald hx hb hK hP 14 1 rfl rfl hin hdg kk
theorem ms_13 (hx : p.tables.exec = Jvm.exec) (hb : c.code = cc) (hK : va_K D vwCl (mTy cI cL) s) (hD : mDs A h0 ad cI cL) (hP : mW D h0 ad cI cL (I, J, cn, cm, so) H) (hS : va_S A H0 H locs) {i : Int32} {x : Int64} (hin : vp_in i 96) (hdg : decode cc pc = .ok (.lastore, 1)) (kk : ∀ (H1 : Heap) (locs1 : List Loc), mW D h0 ad cI cL (I, mj_up J 5 i.toNatClampNeg x, cn, cm, so) H1 → va_S A H0 H1 locs1 → W p l e R s m args below meth c H1 locs1 cells slots Q (F0 m (pc + 1) ls rest)) : W p l e R s m args below meth c H locs cells slots Q (F0 m pc ls (.long x :: .int i :: .ref (ad 13) :: rest)) := va_last hx hb hK hP (hD _) hS 14 1 rfl rfl hin hdg (fun H1 locs1 h1 _ h3 => kk H1 locs1 h1 h3)
theorem ma_14 (hx : p.tables.exec = Jvm.exec) (hb : c.code = cc) (hK : va_K D vwCl (mTy cI cL) s) (hP : mW D h0 ad cI cL (I, J, cn, cm, so) H) {i : Int32} (hin : vp_in i 5) (hdg : decode cc pc = .ok (.iaload, 1)) (kk : W p l e R s m args below meth c H locs cells slots Q (F0 m (pc + 1) ls (.int (I 8 i.toNatClampNeg) :: rest))) : W p l e R s m args below meth c H locs cells slots Q (F0 m pc ls (.int i :: .ref (ad 14) :: rest)) := va_iald hx hb hK hP 15 0 rfl rfl hin hdg kk
theorem ms_14 (hx : p.tables.exec = Jvm.exec) (hb : c.code = cc) (hK : va_K D vwCl (mTy cI cL) s) (hD : mDs A h0 ad cI cL) (hP : mW D h0 ad cI cL (I, J, cn, cm, so) H) (hS : va_S A H0 H locs) {i : Int32} {x : Int32} (hin : vp_in i 5) (hdg : decode cc pc = .ok (.iastore, 1)) (kk : ∀ (H1 : Heap) (locs1 : List Loc), mW D h0 ad cI cL (mi_up I 8 i.toNatClampNeg x, J, cn, cm, so) H1 → va_S A H0 H1 locs1 → W p l e R s m args below meth c H1 locs1 cells slots Q (F0 m (pc + 1) ls rest)) : W p l e R s m args below meth c H locs cells slots Q (F0 m pc ls (.int x :: .int i :: .ref (ad 14) :: rest)) := va_iast hx hb hK hP (hD _) hS 15 0 rfl rfl hin hdg (fun H1 locs1 h1 _ h3 => kk H1 locs1 h1 h3)
theorem ma_15 (hx : p.tables.exec = Jvm.exec) (hb : c.code = cc) (hK : va_K D vwCl (mTy cI cL) s) (hP : mW D h0 ad cI cL (I, J, cn, cm, so) H) {i : Int32} (hin : vp_in i 4) (hdg : decode cc pc = .ok (.laload, 1)) (kk : W p l e R s m args below meth c H locs cells slots Q (F0 m (pc + 1) ls (.long (J 6 i.toNatClampNeg) :: rest))) : W p l e R s m args below meth c H locs cells slots Q (F0 m pc ls (.int i :: .ref (ad 15) :: rest)) := va_lald hx hb hK hP 16 1 rfl rfl hin hdg kk
theorem ms_15 (hx : p.tables.exec = Jvm.exec) (hb : c.code = cc) (hK : va_K D vwCl (mTy cI cL) s) (hD : mDs A h0 ad cI cL) (hP : mW D h0 ad cI cL (I, J, cn, cm, so) H) (hS : va_S A H0 H locs) {i : Int32} {x : Int64} (hin : vp_in i 4) (hdg : decode cc pc = .ok (.lastore, 1)) (kk : ∀ (H1 : Heap) (locs1 : List Loc), mW D h0 ad cI cL (I, mj_up J 6 i.toNatClampNeg x, cn, cm, so) H1 → va_S A H0 H1 locs1 → W p l e R s m args below meth c H1 locs1 cells slots Q (F0 m (pc + 1) ls rest)) : W p l e R s m args below meth c H locs cells slots Q (F0 m pc ls (.long x :: .int i :: .ref (ad 15) :: rest)) := va_last hx hb hK hP (hD _) hS 16 1 rfl rfl hin hdg (fun H1 locs1 h1 _ h3 => kk H1 locs1 h1 h3)
theorem ma_16 (hx : p.tables.exec = Jvm.exec) (hb : c.code = cc) (hK : va_K D vwCl (mTy cI cL) s) (hP : mW D h0 ad cI cL (I, J, cn, cm, so) H) {i : Int32} (hin : vp_in i 5) (hdg : decode cc pc = .ok (.iaload, 1)) (kk : W p l e R s m args below meth c H locs cells slots Q (F0 m (pc + 1) ls (.int (I 9 i.toNatClampNeg) :: rest))) : W p l e R s m args below meth c H locs cells slots Q (F0 m pc ls (.int i :: .ref (ad 16) :: rest)) := va_iald hx hb hK hP 17 0 rfl rfl hin hdg kk
theorem ms_16 (hx : p.tables.exec = Jvm.exec) (hb : c.code = cc) (hK : va_K D vwCl (mTy cI cL) s) (hD : mDs A h0 ad cI cL) (hP : mW D h0 ad cI cL (I, J, cn, cm, so) H) (hS : va_S A H0 H locs) {i : Int32} {x : Int32} (hin : vp_in i 5) (hdg : decode cc pc = .ok (.iastore, 1)) (kk : ∀ (H1 : Heap) (locs1 : List Loc), mW D h0 ad cI cL (mi_up I 9 i.toNatClampNeg x, J, cn, cm, so) H1 → va_S A H0 H1 locs1 → W p l e R s m args below meth c H1 locs1 cells slots Q (F0 m (pc + 1) ls rest)) : W p l e R s m args below meth c H locs cells slots Q (F0 m pc ls (.int x :: .int i :: .ref (ad 16) :: rest)) := va_iast hx hb hK hP (hD _) hS 17 0 rfl rfl hin hdg (fun H1 locs1 h1 _ h3 => kk H1 locs1 h1 h3)
theorem ma_17 (hx : p.tables.exec = Jvm.exec) (hb : c.code = cc) (hK : va_K D vwCl (mTy cI cL) s) (hP : mW D h0 ad cI cL (I, J, cn, cm, so) H) {i : Int32} (hin : vp_in i 4) (hdg : decode cc pc = .ok (.laload, 1)) (kk : W p l e R s m args below meth c H locs cells slots Q (F0 m (pc + 1) ls (.long (J 7 i.toNatClampNeg) :: rest))) : W p l e R s m args below meth c H locs cells slots Q (F0 m pc ls (.int i :: .ref (ad 17) :: rest)) := va_lald hx hb hK hP 18 1 rfl rfl hin hdg kk
theorem ms_17 (hx : p.tables.exec = Jvm.exec) (hb : c.code = cc) (hK : va_K D vwCl (mTy cI cL) s) (hD : mDs A h0 ad cI cL) (hP : mW D h0 ad cI cL (I, J, cn, cm, so) H) (hS : va_S A H0 H locs) {i : Int32} {x : Int64} (hin : vp_in i 4) (hdg : decode cc pc = .ok (.lastore, 1)) (kk : ∀ (H1 : Heap) (locs1 : List Loc), mW D h0 ad cI cL (I, mj_up J 7 i.toNatClampNeg x, cn, cm, so) H1 → va_S A H0 H1 locs1 → W p l e R s m args below meth c H1 locs1 cells slots Q (F0 m (pc + 1) ls rest)) : W p l e R s m args below meth c H locs cells slots Q (F0 m pc ls (.long x :: .int i :: .ref (ad 17) :: rest)) := va_last hx hb hK hP (hD _) hS 18 1 rfl rfl hin hdg (fun H1 locs1 h1 _ h3 => kk H1 locs1 h1 h3)
theorem ma_18 (hx : p.tables.exec = Jvm.exec) (hb : c.code = cc) (hK : va_K D vwCl (mTy cI cL) s) (hP : mW D h0 ad cI cL (I, J, cn, cm, so) H) {i : Int32} (hin : vp_in i 40) (hdg : decode cc pc = .ok (.iaload, 1)) (kk : W p l e R s m args below meth c H locs cells slots Q (F0 m (pc + 1) ls (.int (I 10 i.toNatClampNeg) :: rest))) : W p l e R s m args below meth c H locs cells slots Q (F0 m pc ls (.int i :: .ref (ad 18) :: rest)) := va_iald hx hb hK hP 19 0 rfl rfl hin hdg kk
theorem ms_18 (hx : p.tables.exec = Jvm.exec) (hb : c.code = cc) (hK : va_K D vwCl (mTy cI cL) s) (hD : mDs A h0 ad cI cL) (hP : mW D h0 ad cI cL (I, J, cn, cm, so) H) (hS : va_S A H0 H locs) {i : Int32} {x : Int32} (hin : vp_in i 40) (hdg : decode cc pc = .ok (.iastore, 1)) (kk : ∀ (H1 : Heap) (locs1 : List Loc), mW D h0 ad cI cL (mi_up I 10 i.toNatClampNeg x, J, cn, cm, so) H1 → va_S A H0 H1 locs1 → W p l e R s m args below meth c H1 locs1 cells slots Q (F0 m (pc + 1) ls rest)) : W p l e R s m args below meth c H locs cells slots Q (F0 m pc ls (.int x :: .int i :: .ref (ad 18) :: rest)) := va_iast hx hb hK hP (hD _) hS 19 0 rfl rfl hin hdg (fun H1 locs1 h1 _ h3 => kk H1 locs1 h1 h3)
end MROWS
theorem gw_M_100 : GoodIn lg_tbl (wsV RXM 100 RXM yXM_leave (.code yXM_leave cXM_leave 5 none :: lg_tbl)) := fx_goodV (fx_m (by decide +kernel)) (fx_m (by decide +kernel)) (fx_m (by decide +kernel)) (fx_m (by decide +kernel)) qXM_leave
theorem gw_M_104 : GoodIn lg_tbl (wsV RXM 104 RXM yXM_become (.code yXM_become cXM_become 3 none :: lg_tbl)) := fx_goodV (fx_m (by decide +kernel)) (fx_m (by decide +kernel)) (fx_m (by decide +kernel)) (fx_m (by decide +kernel)) qXM_become
theorem gw_M_108 : GoodIn lg_tbl (wsV RXM 108 RXM yXM_inShape (.code yXM_inShape cXM_inShape 3 (some .boolean) :: lg_tbl)) := fx_goodV (fx_m (by decide +kernel)) (fx_m (by decide +kernel)) (fx_m (by decide +kernel)) (fx_m (by decide +kernel)) qXM_inShape
theorem gw_M_112 : GoodIn lg_tbl (wsV RXM 112 RXM yXM_linksHeld (.code yXM_linksHeld cXM_linksHeld 4 (some .boolean) :: lg_tbl)) := fx_goodV (fx_m (by decide +kernel)) (fx_m (by decide +kernel)) (fx_m (by decide +kernel)) (fx_m (by decide +kernel)) qXM_linksHeld
theorem gw_M_116 : GoodIn lg_tbl (wsV RXM 116 RXM yXM_waitAt (.code yXM_waitAt cXM_waitAt 5 none :: lg_tbl)) := fx_goodV (fx_m (by decide +kernel)) (fx_m (by decide +kernel)) (fx_m (by decide +kernel)) (fx_m (by decide +kernel)) qXM_waitAt
theorem gw_M_119 : GoodIn lg_tbl (wsV RXM 119 RXM yXM_isRight (.code yXM_isRight cXM_isRight 8 (some .boolean) :: lg_tbl)) := fx_goodV (fx_m (by decide +kernel)) (fx_m (by decide +kernel)) (fx_m (by decide +kernel)) (fx_m (by decide +kernel)) qXM_isRight
theorem gw_M_122 : GoodIn lg_tbl (wsV RXM 122 RXM yXM_enter (.code yXM_enter cXM_enter 3 (some .int) :: lg_tbl)) := fx_goodV (fx_m (by decide +kernel)) (fx_m (by decide +kernel)) (fx_m (by decide +kernel)) (fx_m (by decide +kernel)) qXM_enter
theorem gw_M_125 : GoodIn lg_tbl (wsV RXM 125 RXM yXM_arrive (.code yXM_arrive cXM_arrive 4 (some .int) :: lg_tbl)) := fx_goodV (fx_m (by decide +kernel)) (fx_m (by decide +kernel)) (fx_m (by decide +kernel)) (fx_m (by decide +kernel)) qXM_arrive
theorem gw_M_129 : GoodIn lg_tbl (wsV RXM 129 RXM yXM_load (.code yXM_load cXM_load 3 none :: lg_tbl)) := fx_goodV (fx_m (by decide +kernel)) (fx_m (by decide +kernel)) (fx_m (by decide +kernel)) (fx_m (by decide +kernel)) qXM_load
theorem gw_M_132 : GoodIn lg_tbl (wsS RXM 132 yXM_isReplica (.code yXM_isReplica cXM_isReplica 1 (some .boolean) :: lg_tbl)) := fx_goodS (fx_m (by decide +kernel)) (fx_m (by decide +kernel)) (fx_m (by decide +kernel)) qXM_isReplica
theorem gw_M_135 : GoodIn lg_tbl (wsV RXM 135 RXM yXM_sortHeads (.code yXM_sortHeads cXM_sortHeads 2 none :: lg_tbl)) := fx_goodV (fx_m (by decide +kernel)) (fx_m (by decide +kernel)) (fx_m (by decide +kernel)) (fx_m (by decide +kernel)) qXM_sortHeads
theorem gw_M_141 : GoodIn lg_tbl (wsS RXM 141 yXM_hashOf (.code yXM_hashOf cXM_hashOf 5 (some .long) :: lg_tbl)) := fx_goodS (fx_m (by decide +kernel)) (fx_m (by decide +kernel)) (fx_m (by decide +kernel)) qXM_hashOf
theorem gw_M_145 : GoodIn lg_tbl (wsV RXM 145 RXM yXM_come (.code yXM_come cXM_come 4 (some .int) :: lg_tbl)) := fx_goodV (fx_m (by decide +kernel)) (fx_m (by decide +kernel)) (fx_m (by decide +kernel)) (fx_m (by decide +kernel)) qXM_come
theorem gw_M_148 : GoodIn lg_tbl (wsV RXM 148 RXM yXM_draftHash (.code yXM_draftHash cXM_draftHash 1 (some .long) :: lg_tbl)) := fx_goodV (fx_m (by decide +kernel)) (fx_m (by decide +kernel)) (fx_m (by decide +kernel)) (fx_m (by decide +kernel)) qXM_draftHash
theorem gw_M_153 : GoodIn lg_tbl (wsV RXM 153 RXM yXM_sort (.code yXM_sort cXM_sort 6 none :: lg_tbl)) := fx_goodV (fx_m (by decide +kernel)) (fx_m (by decide +kernel)) (fx_m (by decide +kernel)) (fx_m (by decide +kernel)) qXM_sort
theorem gw_M_157 : GoodIn lg_tbl (wsV RXM 157 RXM yXM_headSet (.code yXM_headSet cXM_headSet 5 (some .long) :: lg_tbl)) := fx_goodV (fx_m (by decide +kernel)) (fx_m (by decide +kernel)) (fx_m (by decide +kernel)) (fx_m (by decide +kernel)) qXM_headSet
theorem gw_M_161 : GoodIn lg_tbl (wsV RXM 161 RXM yXM_linkSet (.code yXM_linkSet cXM_linkSet 7 (some .long) :: lg_tbl)) := fx_goodV (fx_m (by decide +kernel)) (fx_m (by decide +kernel)) (fx_m (by decide +kernel)) (fx_m (by decide +kernel)) qXM_linkSet
theorem gw_M_165 : GoodIn lg_tbl (wsV RXM 165 RXM yXM_bring (.code yXM_bring cXM_bring 5 none :: lg_tbl)) := fx_goodV (fx_m (by decide +kernel)) (fx_m (by decide +kernel)) (fx_m (by decide +kernel)) (fx_m (by decide +kernel)) qXM_bring
theorem gw_M_169 : GoodIn lg_tbl (wsV RXM 169 RXM yXM_before (.code yXM_before cXM_before 4 (some .boolean) :: lg_tbl)) := fx_goodV (fx_m (by decide +kernel)) (fx_m (by decide +kernel)) (fx_m (by decide +kernel)) (fx_m (by decide +kernel)) qXM_before
theorem gw_M_173 : GoodIn lg_tbl (wsS RXM 173 yXM_size (.code yXM_size cXM_size 4 (some .int) :: lg_tbl)) := fx_goodS (fx_m (by decide +kernel)) (fx_m (by decide +kernel)) (fx_m (by decide +kernel)) qXM_size
theorem gw_M_176 : GoodIn lg_tbl (wsV RXM 176 RXM yXM_placeOf (.code yXM_placeOf cXM_placeOf 3 (some .int) :: lg_tbl)) := fx_goodV (fx_m (by decide +kernel)) (fx_m (by decide +kernel)) (fx_m (by decide +kernel)) (fx_m (by decide +kernel)) qXM_placeOf
theorem gw_M_72 : GoodIn lg_tbl (wsS RXM 72 yXM_taken (.code yXM_taken cXM_taken 6 (some .long) :: lg_tbl)) := fx_goodS (fx_m (by decide +kernel)) (fx_m (by decide +kernel)) (fx_m (by decide +kernel)) qXM_taken
theorem gw_M_84 : GoodIn lg_tbl (wsV RXM 84 RXM yXM_find (.code yXM_find cXM_find 5 (some .int) :: lg_tbl)) := fx_goodV (fx_m (by decide +kernel)) (fx_m (by decide +kernel)) (fx_m (by decide +kernel)) (fx_m (by decide +kernel)) qXM_find
theorem gw_M_88 : GoodIn lg_tbl (wsS RXM 88 yXM_in (.code yXM_in cXM_in 3 (some .boolean) :: lg_tbl)) := fx_goodS (fx_m (by decide +kernel)) (fx_m (by decide +kernel)) (fx_m (by decide +kernel)) qXM_in
theorem gw_M_92 : GoodIn lg_tbl (wsV RXM 92 RXM yXM_pastOf (.code yXM_pastOf cXM_pastOf 5 (some .long) :: lg_tbl)) := fx_goodV (fx_m (by decide +kernel)) (fx_m (by decide +kernel)) (fx_m (by decide +kernel)) (fx_m (by decide +kernel)) qXM_pastOf
theorem gw_M_96 : GoodIn lg_tbl (wsV RXM 96 RXM yXM_depthOf (.code yXM_depthOf cXM_depthOf 4 (some .int) :: lg_tbl)) := fx_goodV (fx_m (by decide +kernel)) (fx_m (by decide +kernel)) (fx_m (by decide +kernel)) (fx_m (by decide +kernel)) qXM_depthOf
end
section
def wMisReplica (post : Int32 → (Nat → Nat → Int32) → (Nat → Nat → Int64) → Int32 → Int64 → Int32 → Prop) (I : Nat → Nat → Int32) (J : Nat → Nat → Int64) (cn : Int32) (cm : Int64) (so : Int32) (a1 : Int32) : Prop := ((a1 < 0 → (post 0 I J cn cm so)) ∧ (¬ a1 < 0 → ((3 < a1 → (post 0 I J cn cm so)) ∧ (¬ 3 < a1 → (post 1 I J cn cm so)))))
set_option maxRecDepth 100000 in
set_option maxHeartbeats 4000000 in
theorem sMisReplica_in {p : Program} {l : Launch} {e : Env} {s : State} {m : MethodId} {args : Array Value} {below : List Frame} {meth : Method} {c : Code} {D : va_G} {A : Nat → Prop} {h0 : Nat} {ad : Nat → Nat} {cI cL : ClassId} {post : Int32 → (Nat → Nat → Int32) → (Nat → Nat → Int64) → Int32 → Int64 → Int32 → Prop} (C0 : mCx p s m args meth c D A h0 ad cI cL cXM_isReplica 1 (some .boolean)) : ∀ (I : Nat → Nat → Int32) (J : Nat → Nat → Int64) (cn : Int32) (cm : Int64) (so : Int32) (a1 : Int32), wMisReplica post I J cn cm so a1 → ∀ (H : Heap) (locs : List Loc) (ls : Array Slot), mW D h0 ad cI cL (I, J, cn, cm, so) H → va_S A s.heap H locs → lv_has ls 1 [(0, .int a1)] → W p l e ({ frames := 0, cells := 0, slots := 0, locals := 0 } : Room) s m args below meth c H locs 0 0 (MQ below (va_Qi (fun (r : Int32) (u : mS) => post r u.1 u.2.1 u.2.2.1 u.2.2.2.1 u.2.2.2.2) (fxC (mW D h0 ad cI cL)) A) args s 0 0 A) (F0 m 0 ls []) := by
  obtain ⟨hx, hb, hr, hml, hown, hts, hlocks, hK, hN, hD⟩ := id C0
  intro I J cn cm so a1 h H locs ls hP hS hl
  replace h : ((a1 < 0 → (post 0 I J cn cm so)) ∧ (¬ a1 < 0 → ((3 < a1 → (post 0 I J cn cm so)) ∧ (¬ 3 < a1 → (post 1 I J cn cm so))))) := h
  refine lv_iload_n hx hb dXM_isReplica_0 rfl (lv_at hl 0 rfl) ?_
  refine lv_if_lt (tgt := 13) hx hb dXM_isReplica_1 (by decide) (fun c1 => ?_) (fun c1 => ?_)
  · replace h := h.1 c1
    refine lv_iconst (v := 0) hx hb dXM_isReplica_13 (by decide) ?_
    exact W.zret hx hb hr rfl (fun t ht hW => ⟨⟨_, (I, J, cn, cm, so), rfl, h, by rw [fxC, ht]; exact hP⟩, hS.F ht⟩) hS.2.2 dXM_isReplica_14 hlocks
  · replace h := h.2 c1
    refine lv_iload_n hx hb dXM_isReplica_4 rfl (lv_at hl 0 rfl) ?_
    refine lv_iconst (v := 3) hx hb dXM_isReplica_5 (by decide) ?_
    refine lv_icmp_gt (tgt := 13) hx hb dXM_isReplica_6 (by decide) (fun c2 => ?_) (fun c2 => ?_)
    · replace h := h.1 c2
      refine lv_iconst (v := 0) hx hb dXM_isReplica_13 (by decide) ?_
      exact W.zret hx hb hr rfl (fun t ht hW => ⟨⟨_, (I, J, cn, cm, so), rfl, h, by rw [fxC, ht]; exact hP⟩, hS.F ht⟩) hS.2.2 dXM_isReplica_14 hlocks
    · replace h := h.2 c2
      refine lv_iconst (v := 1) hx hb dXM_isReplica_9 (by decide) ?_
      refine lv_goto (tgt := 14) hx hb dXM_isReplica_10 (by decide) ?_
      exact W.zret hx hb hr rfl (fun t ht hW => ⟨⟨_, (I, J, cn, cm, so), rfl, h, by rw [fxC, ht]; exact hP⟩, hS.F ht⟩) hS.2.2 dXM_isReplica_14 hlocks
set_option maxRecDepth 100000 in
set_option maxHeartbeats 4000000 in
theorem cMisReplica {l : Launch} {D : va_G} {A : Nat → Prop} {h0 : Nat} {ad : Nat → Nat} {cI cL : ClassId} (hD : mDs A h0 ad cI cL) {post : Int32 → (Nat → Nat → Int32) → (Nat → Nat → Int64) → Int32 → Int64 → Int32 → Prop} {I : Nat → Nat → Int32} {J : Nat → Nat → Int64} {cn : Int32} {cm : Int64} {so : Int32} {a1 : Int32} (h : wMisReplica post I J cn cm so a1) : Met l yXM_isReplica (.code yXM_isReplica cXM_isReplica 1 (some .boolean) :: lg_tbl) ({ frames := 0, cells := 0, slots := 0, locals := 0 } : Room) (va_Pc [.int a1] (fxB (mW D h0 ad cI cL (I, J, cn, cm, so)) D vwCl (mTy cI cL))) (va_Qi (fun (r : Int32) (u : mS) => post r u.1 u.2.1 u.2.2.1 u.2.2.2.1 u.2.2.2.2) (fxC (mW D h0 ad cI cL)) A) 0 0 A := by
  refine fx_start (by decide +kernel) (Nat.le_of_ble_eq_true rfl) ?_
  intro p e s m below meth c ls hx hb hr hml hown hts hlocks hnm hB hl
  exact sMisReplica_in ⟨hx, hb, hr, hml, hown, hts, hlocks, hB.2.1, hB.2.2, hD⟩ I J cn cm so a1 h _ _ ls hB.1 va_S.rf hl
def wMtaken (post : Int64 → (Nat → Nat → Int32) → (Nat → Nat → Int64) → Int32 → Int64 → Int32 → Prop) (I : Nat → Nat → Int32) (J : Nat → Nat → Int64) (cn : Int32) (cm : Int64) (so : Int32) (a1 : Int64) (a2 : Int64) : Prop := (post (((a1 ^^^ a2) * 1099511628211) ^^^ (hj_ushr ((a1 ^^^ a2) * 1099511628211) 29)) I J cn cm so)
set_option maxRecDepth 100000 in
set_option maxHeartbeats 4000000 in
theorem sMtaken_in {p : Program} {l : Launch} {e : Env} {s : State} {m : MethodId} {args : Array Value} {below : List Frame} {meth : Method} {c : Code} {D : va_G} {A : Nat → Prop} {h0 : Nat} {ad : Nat → Nat} {cI cL : ClassId} {post : Int64 → (Nat → Nat → Int32) → (Nat → Nat → Int64) → Int32 → Int64 → Int32 → Prop} (C0 : mCx p s m args meth c D A h0 ad cI cL cXM_taken 6 (some .long)) : ∀ (I : Nat → Nat → Int32) (J : Nat → Nat → Int64) (cn : Int32) (cm : Int64) (so : Int32) (a1 : Int64) (a2 : Int64), wMtaken post I J cn cm so a1 a2 → ∀ (H : Heap) (locs : List Loc) (ls : Array Slot), mW D h0 ad cI cL (I, J, cn, cm, so) H → va_S A s.heap H locs → lv_has ls 6 [(0, .long a1), (2, .long a2)] → W p l e ({ frames := 0, cells := 0, slots := 0, locals := 0 } : Room) s m args below meth c H locs 0 0 (MQ below (va_Ql (fun (r : Int64) (u : mS) => post r u.1 u.2.1 u.2.2.1 u.2.2.2.1 u.2.2.2.2) (fxC (mW D h0 ad cI cL)) A) args s 0 0 A) (F0 m 0 ls []) := by
  obtain ⟨hx, hb, hr, hml, hown, hts, hlocks, hK, hN, hD⟩ := id C0
  intro I J cn cm so a1 a2 h H locs ls hP hS hl
  replace h : (post (((a1 ^^^ a2) * 1099511628211) ^^^ (hj_ushr ((a1 ^^^ a2) * 1099511628211) 29)) I J cn cm so) := h
  refine lv_lload_n hx hb dXM_taken_0 rfl (lv_at hl 0 rfl) ?_
  refine lv_lload_n hx hb dXM_taken_1 rfl (lv_at hl 1 rfl) ?_
  refine lv_lxor hx hb dXM_taken_2 ?_
  refine lv_ldc2 (v := 1099511628211) hx hb hown (hts (.constantLong RXM 68 1099511628211) (fx_m (by decide +kernel))) dXM_taken_3 ?_
  refine lv_lmul hx hb dXM_taken_6 ?_
  refine lv_lstore (lv' := [(4, .long ((a1 ^^^ a2) * 1099511628211)), (0, .long a1), (2, .long a2)]) hx hb dXM_taken_7 hl (by decide) rfl (fun ls hl => ?_)
  refine lv_lload hx hb dXM_taken_9 (lv_at hl 0 rfl) ?_
  refine lv_lload hx hb dXM_taken_11 (lv_at hl 0 rfl) ?_
  refine lv_bipush (v := 29) hx hb dXM_taken_13 (by decide) ?_
  refine lv_lushr (v := hj_ushr ((a1 ^^^ a2) * 1099511628211) 29) hx hb dXM_taken_15 rfl ?_
  refine lv_lxor hx hb dXM_taken_16 ?_
  exact W.lret hx hb hr (fun t ht hW => ⟨⟨_, (I, J, cn, cm, so), rfl, h, by rw [fxC, ht]; exact hP⟩, hS.F ht⟩) hS.2.2 dXM_taken_17 hlocks
set_option maxRecDepth 100000 in
set_option maxHeartbeats 4000000 in
theorem cMtaken {l : Launch} {D : va_G} {A : Nat → Prop} {h0 : Nat} {ad : Nat → Nat} {cI cL : ClassId} (hD : mDs A h0 ad cI cL) {post : Int64 → (Nat → Nat → Int32) → (Nat → Nat → Int64) → Int32 → Int64 → Int32 → Prop} {I : Nat → Nat → Int32} {J : Nat → Nat → Int64} {cn : Int32} {cm : Int64} {so : Int32} {a1 : Int64} {a2 : Int64} (h : wMtaken post I J cn cm so a1 a2) : Met l yXM_taken (.code yXM_taken cXM_taken 6 (some .long) :: lg_tbl) ({ frames := 0, cells := 0, slots := 0, locals := 0 } : Room) (va_Pc [.long a1, .long a2] (fxB (mW D h0 ad cI cL (I, J, cn, cm, so)) D vwCl (mTy cI cL))) (va_Ql (fun (r : Int64) (u : mS) => post r u.1 u.2.1 u.2.2.1 u.2.2.2.1 u.2.2.2.2) (fxC (mW D h0 ad cI cL)) A) 0 0 A := by
  refine fx_start (by decide +kernel) (Nat.le_of_ble_eq_true rfl) ?_
  intro p e s m below meth c ls hx hb hr hml hown hts hlocks hnm hB hl
  exact sMtaken_in ⟨hx, hb, hr, hml, hown, hts, hlocks, hB.2.1, hB.2.2, hD⟩ I J cn cm so a1 a2 h _ _ ls hB.1 va_S.rf hl
noncomputable def wMhashOfN_32 (post : Int64 → (Nat → Nat → Int32) → (Nat → Nat → Int64) → Int32 → Int64 → Int32 → Prop) (n : Nat) : (Nat → Nat → Int32) → (Nat → Nat → Int64) → Int32 → Int64 → Int32 → Int64 → Int32 → Prop := Nat.rec (motive := fun _ => (Nat → Nat → Int32) → (Nat → Nat → Int64) → Int32 → Int64 → Int32 → Int64 → Int32 → Prop) (fun _ _ _ _ _ _ _ => False) (fun _ K32 I J cn cm so v2 v4 => (vp_in 4 5 ∧ (((I 9 (Int32.toNatClampNeg 4)) ≤ v4 → (post v2 I J cn cm so)) ∧ (¬ (I 9 (Int32.toNatClampNeg 4)) ≤ v4 → (vp_in v4 4 ∧ (wMtaken (fun r7 I_7 J_7 cn_7 cm_7 so_7 => (K32 I_7 J_7 cn_7 cm_7 so_7 r7 (v4 + 1))) I J cn cm so v2 (J 7 (Int32.toNatClampNeg v4)))))))) n
noncomputable def wMhashOfN_7 (post : Int64 → (Nat → Nat → Int32) → (Nat → Nat → Int64) → Int32 → Int64 → Int32 → Prop) (n : Nat) : (Nat → Nat → Int32) → (Nat → Nat → Int64) → Int32 → Int64 → Int32 → Int64 → Int32 → Prop := Nat.rec (motive := fun _ => (Nat → Nat → Int32) → (Nat → Nat → Int64) → Int32 → Int64 → Int32 → Int64 → Int32 → Prop) (fun _ _ _ _ _ _ _ => False) (fun _ K7 I J cn cm so v2 v4 => ((5 ≤ v4 → (∃ k, wMhashOfN_32 post  k I J cn cm so v2 0)) ∧ (¬ 5 ≤ v4 → (vp_in v4 5 ∧ (wMtaken (fun r3 I_3 J_3 cn_3 cm_3 so_3 => (K7 I_3 J_3 cn_3 cm_3 so_3 r3 (v4 + 1))) I J cn cm so v2 (Int32.toInt64 (I 9 (Int32.toNatClampNeg v4)))))))) n
def wMhashOfN (post : Int64 → (Nat → Nat → Int32) → (Nat → Nat → Int64) → Int32 → Int64 → Int32 → Prop) (I : Nat → Nat → Int32) (J : Nat → Nat → Int64) (cn : Int32) (cm : Int64) (so : Int32) : Prop := (∃ k, wMhashOfN_7 post  k I J cn cm so 6148914691236517205 0)
set_option maxRecDepth 100000 in
set_option maxHeartbeats 4000000 in
theorem sMhashOfN_32 {p : Program} {l : Launch} {e : Env} {s : State} {m : MethodId} {args : Array Value} {below : List Frame} {meth : Method} {c : Code} {D : va_G} {A : Nat → Prop} {h0 : Nat} {ad : Nat → Nat} {cI cL : ClassId} {post : Int64 → (Nat → Nat → Int32) → (Nat → Nat → Int64) → Int32 → Int64 → Int32 → Prop} (C0 : mCx p s m args meth c D A h0 ad cI cL cXM_hashOf 5 (some .long)) : ∀ (n : Nat) (I : Nat → Nat → Int32) (J : Nat → Nat → Int64) (cn : Int32) (cm : Int64) (so : Int32) (v2 : Int64) (v4 : Int32), wMhashOfN_32 post  n I J cn cm so v2 v4 → ∀ (H : Heap) (locs : List Loc) (ls : Array Slot), mW D h0 ad cI cL (I, J, cn, cm, so) H → va_S A s.heap H locs → lv_has ls 5 [(0, .ref (ad 16)), (1, .ref (ad 17)), (2, .long v2), (4, .int v4)] → W p l e ({ frames := 1, cells := 0, slots := 0, locals := 25 } : Room) s m args below meth c H locs 0 0 (MQ below (va_Ql (fun (r : Int64) (u : mS) => post r u.1 u.2.1 u.2.2.1 u.2.2.2.1 u.2.2.2.2) (fxC (mW D h0 ad cI cL)) A) args s 0 0 A) (F0 m 32 ls []) := by
  obtain ⟨hx, hb, hr, hml, hown, hts, hlocks, hK, hN, hD⟩ := id C0
  intro n
  induction n with
  | zero => exact fun _ _ _ _ _ _ _ h => h.elim
  | succ n hK32 =>
    intro I J cn cm so v2 v4 h H locs ls hP hS hl
    replace h : (vp_in 4 5 ∧ (((I 9 (Int32.toNatClampNeg 4)) ≤ v4 → (post v2 I J cn cm so)) ∧ (¬ (I 9 (Int32.toNatClampNeg 4)) ≤ v4 → (vp_in v4 4 ∧ (wMtaken (fun r7 I_7 J_7 cn_7 cm_7 so_7 => ((wMhashOfN_32 post  n) I_7 J_7 cn_7 cm_7 so_7 r7 (v4 + 1))) I J cn cm so v2 (J 7 (Int32.toNatClampNeg v4))))))) := h
    refine lv_iload hx hb dXM_hashOf_32 (lv_at hl 3 rfl) ?_
    refine lv_aload_n hx hb dXM_hashOf_34 rfl (lv_at hl 0 rfl) ?_
    refine lv_iconst (v := 4) hx hb dXM_hashOf_35 (by decide) ?_
    obtain ⟨h4, h⟩ := h
    refine ma_16 hx hb hK hP h4 dXM_hashOf_36 ?_
    refine lv_icmp_ge (tgt := 55) hx hb dXM_hashOf_37 (by decide) (fun c5 => ?_) (fun c5 => ?_)
    · replace h := h.1 c5
      refine lv_lload_n hx hb dXM_hashOf_55 rfl (lv_at hl 2 rfl) ?_
      exact W.lret hx hb hr (fun t ht hW => ⟨⟨_, (I, J, cn, cm, so), rfl, h, by rw [fxC, ht]; exact hP⟩, hS.F ht⟩) hS.2.2 dXM_hashOf_56 hlocks
    · replace h := h.2 c5
      refine lv_lload_n hx hb dXM_hashOf_40 rfl (lv_at hl 2 rfl) ?_
      refine lv_aload_n hx hb dXM_hashOf_41 rfl (lv_at hl 1 rfl) ?_
      refine lv_iload hx hb dXM_hashOf_42 (lv_at hl 3 rfl) ?_
      obtain ⟨h6, h⟩ := h
      refine ma_17 hx hb hK hP h6 dXM_hashOf_44 ?_
      refine va_calll (va_runS (As := [.long v2, .long (J 7 (Int32.toNatClampNeg v4))]) (rest := []) ⟨hx, hb, hml, hown, hts⟩ (cMtaken hD h) (fx_cwS 2 hts gw_M_72 hdXM_taken ⟨Nat.le_of_ble_eq_true rfl, Nat.le_of_ble_eq_true rfl⟩) (fx_preS hP hK hN) rfl rfl hl.1 rfl (lv_room (Nat.le_of_ble_eq_true rfl)) dXM_hashOf_45 ⟨Nat.le_of_ble_eq_true rfl, Nat.le_of_ble_eq_true rfl⟩) hS (fun _ _ q => q) (fun _ q => q) (fun r7 u t H locs ht hvm h hP hz hk hS => ?_)
      rw [fxC, ht] at hP
      obtain ⟨I_7, J_7, cn_7, cm_7, so_7⟩ := u
      dsimp only at h
      refine lv_lstore_n (lv' := [(2, .long r7), (0, .ref (ad 16)), (1, .ref (ad 17)), (4, .int v4)]) hx hb dXM_hashOf_48 rfl hl (by decide) rfl (fun ls hl => ?_)
      refine lv_iinc (v := v4 + 1) (lv' := [(4, .int (v4 + 1)), (2, .long r7), (0, .ref (ad 16)), (1, .ref (ad 17))]) hx hb dXM_hashOf_49 hl (k := 3) rfl rfl (by decide) rfl (fun ls hl => ?_)
      refine lv_goto (tgt := 32) hx hb dXM_hashOf_52 (by decide) ?_
      exact hK32 I_7 J_7 cn_7 cm_7 so_7 r7 (v4 + 1) h H locs ls hP hS (lv_sub hl [2, 3, 1, 0] rfl)
set_option maxRecDepth 100000 in
set_option maxHeartbeats 4000000 in
theorem sMhashOfN_7 {p : Program} {l : Launch} {e : Env} {s : State} {m : MethodId} {args : Array Value} {below : List Frame} {meth : Method} {c : Code} {D : va_G} {A : Nat → Prop} {h0 : Nat} {ad : Nat → Nat} {cI cL : ClassId} {post : Int64 → (Nat → Nat → Int32) → (Nat → Nat → Int64) → Int32 → Int64 → Int32 → Prop} (C0 : mCx p s m args meth c D A h0 ad cI cL cXM_hashOf 5 (some .long)) : ∀ (n : Nat) (I : Nat → Nat → Int32) (J : Nat → Nat → Int64) (cn : Int32) (cm : Int64) (so : Int32) (v2 : Int64) (v4 : Int32), wMhashOfN_7 post  n I J cn cm so v2 v4 → ∀ (H : Heap) (locs : List Loc) (ls : Array Slot), mW D h0 ad cI cL (I, J, cn, cm, so) H → va_S A s.heap H locs → lv_has ls 5 [(0, .ref (ad 16)), (1, .ref (ad 17)), (2, .long v2), (4, .int v4)] → W p l e ({ frames := 1, cells := 0, slots := 0, locals := 25 } : Room) s m args below meth c H locs 0 0 (MQ below (va_Ql (fun (r : Int64) (u : mS) => post r u.1 u.2.1 u.2.2.1 u.2.2.2.1 u.2.2.2.2) (fxC (mW D h0 ad cI cL)) A) args s 0 0 A) (F0 m 7 ls []) := by
  obtain ⟨hx, hb, hr, hml, hown, hts, hlocks, hK, hN, hD⟩ := id C0
  intro n
  induction n with
  | zero => exact fun _ _ _ _ _ _ _ h => h.elim
  | succ n hK7 =>
    intro I J cn cm so v2 v4 h H locs ls hP hS hl
    replace h : ((5 ≤ v4 → (∃ k, wMhashOfN_32 post  k I J cn cm so v2 0)) ∧ (¬ 5 ≤ v4 → (vp_in v4 5 ∧ (wMtaken (fun r3 I_3 J_3 cn_3 cm_3 so_3 => ((wMhashOfN_7 post  n) I_3 J_3 cn_3 cm_3 so_3 r3 (v4 + 1))) I J cn cm so v2 (Int32.toInt64 (I 9 (Int32.toNatClampNeg v4))))))) := h
    refine lv_iload hx hb dXM_hashOf_7 (lv_at hl 3 rfl) ?_
    refine lv_iconst (v := 5) hx hb dXM_hashOf_9 (by decide) ?_
    refine lv_icmp_ge (tgt := 29) hx hb dXM_hashOf_10 (by decide) (fun c1 => ?_) (fun c1 => ?_)
    · replace h := h.1 c1
      refine lv_iconst (v := 0) hx hb dXM_hashOf_29 (by decide) ?_
      refine lv_istore (lv' := [(4, .int 0), (0, .ref (ad 16)), (1, .ref (ad 17)), (2, .long v2)]) hx hb dXM_hashOf_30 hl (by decide) rfl (fun ls hl => ?_)
      obtain ⟨k, h⟩ := h
      exact sMhashOfN_32  C0  k I J cn cm so v2 0 h H locs ls hP hS (lv_sub hl [1, 2, 3, 0] rfl)
    · replace h := h.2 c1
      refine lv_lload_n hx hb dXM_hashOf_13 rfl (lv_at hl 2 rfl) ?_
      refine lv_aload_n hx hb dXM_hashOf_14 rfl (lv_at hl 0 rfl) ?_
      refine lv_iload hx hb dXM_hashOf_15 (lv_at hl 3 rfl) ?_
      obtain ⟨h2, h⟩ := h
      refine ma_16 hx hb hK hP h2 dXM_hashOf_17 ?_
      refine lv_i2l (v := Int32.toInt64 (I 9 (Int32.toNatClampNeg v4))) hx hb dXM_hashOf_18 rfl ?_
      refine va_calll (va_runS (As := [.long v2, .long (Int32.toInt64 (I 9 (Int32.toNatClampNeg v4)))]) (rest := []) ⟨hx, hb, hml, hown, hts⟩ (cMtaken hD h) (fx_cwS 2 hts gw_M_72 hdXM_taken ⟨Nat.le_of_ble_eq_true rfl, Nat.le_of_ble_eq_true rfl⟩) (fx_preS hP hK hN) rfl rfl hl.1 rfl (lv_room (Nat.le_of_ble_eq_true rfl)) dXM_hashOf_19 ⟨Nat.le_of_ble_eq_true rfl, Nat.le_of_ble_eq_true rfl⟩) hS (fun _ _ q => q) (fun _ q => q) (fun r3 u t H locs ht hvm h hP hz hk hS => ?_)
      rw [fxC, ht] at hP
      obtain ⟨I_3, J_3, cn_3, cm_3, so_3⟩ := u
      dsimp only at h
      refine lv_lstore_n (lv' := [(2, .long r3), (0, .ref (ad 16)), (1, .ref (ad 17)), (4, .int v4)]) hx hb dXM_hashOf_22 rfl hl (by decide) rfl (fun ls hl => ?_)
      refine lv_iinc (v := v4 + 1) (lv' := [(4, .int (v4 + 1)), (2, .long r3), (0, .ref (ad 16)), (1, .ref (ad 17))]) hx hb dXM_hashOf_23 hl (k := 3) rfl rfl (by decide) rfl (fun ls hl => ?_)
      refine lv_goto (tgt := 7) hx hb dXM_hashOf_26 (by decide) ?_
      exact hK7 I_3 J_3 cn_3 cm_3 so_3 r3 (v4 + 1) h H locs ls hP hS (lv_sub hl [2, 3, 1, 0] rfl)
set_option maxRecDepth 100000 in
set_option maxHeartbeats 4000000 in
theorem sMhashOfN_in {p : Program} {l : Launch} {e : Env} {s : State} {m : MethodId} {args : Array Value} {below : List Frame} {meth : Method} {c : Code} {D : va_G} {A : Nat → Prop} {h0 : Nat} {ad : Nat → Nat} {cI cL : ClassId} {post : Int64 → (Nat → Nat → Int32) → (Nat → Nat → Int64) → Int32 → Int64 → Int32 → Prop} (C0 : mCx p s m args meth c D A h0 ad cI cL cXM_hashOf 5 (some .long)) : ∀ (I : Nat → Nat → Int32) (J : Nat → Nat → Int64) (cn : Int32) (cm : Int64) (so : Int32), wMhashOfN post I J cn cm so → ∀ (H : Heap) (locs : List Loc) (ls : Array Slot), mW D h0 ad cI cL (I, J, cn, cm, so) H → va_S A s.heap H locs → lv_has ls 5 [(0, .ref (ad 16)), (1, .ref (ad 17))] → W p l e ({ frames := 1, cells := 0, slots := 0, locals := 25 } : Room) s m args below meth c H locs 0 0 (MQ below (va_Ql (fun (r : Int64) (u : mS) => post r u.1 u.2.1 u.2.2.1 u.2.2.2.1 u.2.2.2.2) (fxC (mW D h0 ad cI cL)) A) args s 0 0 A) (F0 m 0 ls []) := by
  obtain ⟨hx, hb, hr, hml, hown, hts, hlocks, hK, hN, hD⟩ := id C0
  intro I J cn cm so h H locs ls hP hS hl
  replace h : (∃ k, wMhashOfN_7 post  k I J cn cm so 6148914691236517205 0) := h
  refine lv_ldc2 (v := 6148914691236517205) hx hb hown (hts (.constantLong RXM 70 6148914691236517205) (fx_m (by decide +kernel))) dXM_hashOf_0 ?_
  refine lv_lstore_n (lv' := [(2, .long 6148914691236517205), (0, .ref (ad 16)), (1, .ref (ad 17))]) hx hb dXM_hashOf_3 rfl hl (by decide) rfl (fun ls hl => ?_)
  refine lv_iconst (v := 0) hx hb dXM_hashOf_4 (by decide) ?_
  refine lv_istore (lv' := [(4, .int 0), (2, .long 6148914691236517205), (0, .ref (ad 16)), (1, .ref (ad 17))]) hx hb dXM_hashOf_5 hl (by decide) rfl (fun ls hl => ?_)
  obtain ⟨k, h⟩ := h
  exact sMhashOfN_7  C0  k I J cn cm so 6148914691236517205 0 h H locs ls hP hS (lv_sub hl [2, 3, 1, 0] rfl)
set_option maxRecDepth 100000 in
set_option maxHeartbeats 4000000 in
theorem cMhashOfN {l : Launch} {D : va_G} {A : Nat → Prop} {h0 : Nat} {ad : Nat → Nat} {cI cL : ClassId} (hD : mDs A h0 ad cI cL) {post : Int64 → (Nat → Nat → Int32) → (Nat → Nat → Int64) → Int32 → Int64 → Int32 → Prop} {I : Nat → Nat → Int32} {J : Nat → Nat → Int64} {cn : Int32} {cm : Int64} {so : Int32} (h : wMhashOfN post I J cn cm so) : Met l yXM_hashOf (.code yXM_hashOf cXM_hashOf 5 (some .long) :: lg_tbl) ({ frames := 1, cells := 0, slots := 0, locals := 25 } : Room) (va_Pc [.ref (ad 16), .ref (ad 17)] (fxB (mW D h0 ad cI cL (I, J, cn, cm, so)) D vwCl (mTy cI cL))) (va_Ql (fun (r : Int64) (u : mS) => post r u.1 u.2.1 u.2.2.1 u.2.2.2.1 u.2.2.2.2) (fxC (mW D h0 ad cI cL)) A) 0 0 A := by
  refine fx_start (by decide +kernel) (Nat.le_of_ble_eq_true rfl) ?_
  intro p e s m below meth c ls hx hb hr hml hown hts hlocks hnm hB hl
  exact sMhashOfN_in ⟨hx, hb, hr, hml, hown, hts, hlocks, hB.2.1, hB.2.2, hD⟩ I J cn cm so h _ _ ls hB.1 va_S.rf hl
noncomputable def wMhashOfD_32 (post : Int64 → (Nat → Nat → Int32) → (Nat → Nat → Int64) → Int32 → Int64 → Int32 → Prop) (n : Nat) : (Nat → Nat → Int32) → (Nat → Nat → Int64) → Int32 → Int64 → Int32 → Int64 → Int32 → Prop := Nat.rec (motive := fun _ => (Nat → Nat → Int32) → (Nat → Nat → Int64) → Int32 → Int64 → Int32 → Int64 → Int32 → Prop) (fun _ _ _ _ _ _ _ => False) (fun _ K32 I J cn cm so v2 v4 => (vp_in 4 5 ∧ (((I 8 (Int32.toNatClampNeg 4)) ≤ v4 → (post v2 I J cn cm so)) ∧ (¬ (I 8 (Int32.toNatClampNeg 4)) ≤ v4 → (vp_in v4 4 ∧ (wMtaken (fun r7 I_7 J_7 cn_7 cm_7 so_7 => (K32 I_7 J_7 cn_7 cm_7 so_7 r7 (v4 + 1))) I J cn cm so v2 (J 6 (Int32.toNatClampNeg v4)))))))) n
noncomputable def wMhashOfD_7 (post : Int64 → (Nat → Nat → Int32) → (Nat → Nat → Int64) → Int32 → Int64 → Int32 → Prop) (n : Nat) : (Nat → Nat → Int32) → (Nat → Nat → Int64) → Int32 → Int64 → Int32 → Int64 → Int32 → Prop := Nat.rec (motive := fun _ => (Nat → Nat → Int32) → (Nat → Nat → Int64) → Int32 → Int64 → Int32 → Int64 → Int32 → Prop) (fun _ _ _ _ _ _ _ => False) (fun _ K7 I J cn cm so v2 v4 => ((5 ≤ v4 → (∃ k, wMhashOfD_32 post  k I J cn cm so v2 0)) ∧ (¬ 5 ≤ v4 → (vp_in v4 5 ∧ (wMtaken (fun r3 I_3 J_3 cn_3 cm_3 so_3 => (K7 I_3 J_3 cn_3 cm_3 so_3 r3 (v4 + 1))) I J cn cm so v2 (Int32.toInt64 (I 8 (Int32.toNatClampNeg v4)))))))) n
def wMhashOfD (post : Int64 → (Nat → Nat → Int32) → (Nat → Nat → Int64) → Int32 → Int64 → Int32 → Prop) (I : Nat → Nat → Int32) (J : Nat → Nat → Int64) (cn : Int32) (cm : Int64) (so : Int32) : Prop := (∃ k, wMhashOfD_7 post  k I J cn cm so 6148914691236517205 0)
set_option maxRecDepth 100000 in
set_option maxHeartbeats 4000000 in
theorem sMhashOfD_32 {p : Program} {l : Launch} {e : Env} {s : State} {m : MethodId} {args : Array Value} {below : List Frame} {meth : Method} {c : Code} {D : va_G} {A : Nat → Prop} {h0 : Nat} {ad : Nat → Nat} {cI cL : ClassId} {post : Int64 → (Nat → Nat → Int32) → (Nat → Nat → Int64) → Int32 → Int64 → Int32 → Prop} (C0 : mCx p s m args meth c D A h0 ad cI cL cXM_hashOf 5 (some .long)) : ∀ (n : Nat) (I : Nat → Nat → Int32) (J : Nat → Nat → Int64) (cn : Int32) (cm : Int64) (so : Int32) (v2 : Int64) (v4 : Int32), wMhashOfD_32 post  n I J cn cm so v2 v4 → ∀ (H : Heap) (locs : List Loc) (ls : Array Slot), mW D h0 ad cI cL (I, J, cn, cm, so) H → va_S A s.heap H locs → lv_has ls 5 [(0, .ref (ad 14)), (1, .ref (ad 15)), (2, .long v2), (4, .int v4)] → W p l e ({ frames := 1, cells := 0, slots := 0, locals := 25 } : Room) s m args below meth c H locs 0 0 (MQ below (va_Ql (fun (r : Int64) (u : mS) => post r u.1 u.2.1 u.2.2.1 u.2.2.2.1 u.2.2.2.2) (fxC (mW D h0 ad cI cL)) A) args s 0 0 A) (F0 m 32 ls []) := by
  obtain ⟨hx, hb, hr, hml, hown, hts, hlocks, hK, hN, hD⟩ := id C0
  intro n
  induction n with
  | zero => exact fun _ _ _ _ _ _ _ h => h.elim
  | succ n hK32 =>
    intro I J cn cm so v2 v4 h H locs ls hP hS hl
    replace h : (vp_in 4 5 ∧ (((I 8 (Int32.toNatClampNeg 4)) ≤ v4 → (post v2 I J cn cm so)) ∧ (¬ (I 8 (Int32.toNatClampNeg 4)) ≤ v4 → (vp_in v4 4 ∧ (wMtaken (fun r7 I_7 J_7 cn_7 cm_7 so_7 => ((wMhashOfD_32 post  n) I_7 J_7 cn_7 cm_7 so_7 r7 (v4 + 1))) I J cn cm so v2 (J 6 (Int32.toNatClampNeg v4))))))) := h
    refine lv_iload hx hb dXM_hashOf_32 (lv_at hl 3 rfl) ?_
    refine lv_aload_n hx hb dXM_hashOf_34 rfl (lv_at hl 0 rfl) ?_
    refine lv_iconst (v := 4) hx hb dXM_hashOf_35 (by decide) ?_
    obtain ⟨h4, h⟩ := h
    refine ma_14 hx hb hK hP h4 dXM_hashOf_36 ?_
    refine lv_icmp_ge (tgt := 55) hx hb dXM_hashOf_37 (by decide) (fun c5 => ?_) (fun c5 => ?_)
    · replace h := h.1 c5
      refine lv_lload_n hx hb dXM_hashOf_55 rfl (lv_at hl 2 rfl) ?_
      exact W.lret hx hb hr (fun t ht hW => ⟨⟨_, (I, J, cn, cm, so), rfl, h, by rw [fxC, ht]; exact hP⟩, hS.F ht⟩) hS.2.2 dXM_hashOf_56 hlocks
    · replace h := h.2 c5
      refine lv_lload_n hx hb dXM_hashOf_40 rfl (lv_at hl 2 rfl) ?_
      refine lv_aload_n hx hb dXM_hashOf_41 rfl (lv_at hl 1 rfl) ?_
      refine lv_iload hx hb dXM_hashOf_42 (lv_at hl 3 rfl) ?_
      obtain ⟨h6, h⟩ := h
      refine ma_15 hx hb hK hP h6 dXM_hashOf_44 ?_
      refine va_calll (va_runS (As := [.long v2, .long (J 6 (Int32.toNatClampNeg v4))]) (rest := []) ⟨hx, hb, hml, hown, hts⟩ (cMtaken hD h) (fx_cwS 2 hts gw_M_72 hdXM_taken ⟨Nat.le_of_ble_eq_true rfl, Nat.le_of_ble_eq_true rfl⟩) (fx_preS hP hK hN) rfl rfl hl.1 rfl (lv_room (Nat.le_of_ble_eq_true rfl)) dXM_hashOf_45 ⟨Nat.le_of_ble_eq_true rfl, Nat.le_of_ble_eq_true rfl⟩) hS (fun _ _ q => q) (fun _ q => q) (fun r7 u t H locs ht hvm h hP hz hk hS => ?_)
      rw [fxC, ht] at hP
      obtain ⟨I_7, J_7, cn_7, cm_7, so_7⟩ := u
      dsimp only at h
      refine lv_lstore_n (lv' := [(2, .long r7), (0, .ref (ad 14)), (1, .ref (ad 15)), (4, .int v4)]) hx hb dXM_hashOf_48 rfl hl (by decide) rfl (fun ls hl => ?_)
      refine lv_iinc (v := v4 + 1) (lv' := [(4, .int (v4 + 1)), (2, .long r7), (0, .ref (ad 14)), (1, .ref (ad 15))]) hx hb dXM_hashOf_49 hl (k := 3) rfl rfl (by decide) rfl (fun ls hl => ?_)
      refine lv_goto (tgt := 32) hx hb dXM_hashOf_52 (by decide) ?_
      exact hK32 I_7 J_7 cn_7 cm_7 so_7 r7 (v4 + 1) h H locs ls hP hS (lv_sub hl [2, 3, 1, 0] rfl)
set_option maxRecDepth 100000 in
set_option maxHeartbeats 4000000 in
theorem sMhashOfD_7 {p : Program} {l : Launch} {e : Env} {s : State} {m : MethodId} {args : Array Value} {below : List Frame} {meth : Method} {c : Code} {D : va_G} {A : Nat → Prop} {h0 : Nat} {ad : Nat → Nat} {cI cL : ClassId} {post : Int64 → (Nat → Nat → Int32) → (Nat → Nat → Int64) → Int32 → Int64 → Int32 → Prop} (C0 : mCx p s m args meth c D A h0 ad cI cL cXM_hashOf 5 (some .long)) : ∀ (n : Nat) (I : Nat → Nat → Int32) (J : Nat → Nat → Int64) (cn : Int32) (cm : Int64) (so : Int32) (v2 : Int64) (v4 : Int32), wMhashOfD_7 post  n I J cn cm so v2 v4 → ∀ (H : Heap) (locs : List Loc) (ls : Array Slot), mW D h0 ad cI cL (I, J, cn, cm, so) H → va_S A s.heap H locs → lv_has ls 5 [(0, .ref (ad 14)), (1, .ref (ad 15)), (2, .long v2), (4, .int v4)] → W p l e ({ frames := 1, cells := 0, slots := 0, locals := 25 } : Room) s m args below meth c H locs 0 0 (MQ below (va_Ql (fun (r : Int64) (u : mS) => post r u.1 u.2.1 u.2.2.1 u.2.2.2.1 u.2.2.2.2) (fxC (mW D h0 ad cI cL)) A) args s 0 0 A) (F0 m 7 ls []) := by
  obtain ⟨hx, hb, hr, hml, hown, hts, hlocks, hK, hN, hD⟩ := id C0
  intro n
  induction n with
  | zero => exact fun _ _ _ _ _ _ _ h => h.elim
  | succ n hK7 =>
    intro I J cn cm so v2 v4 h H locs ls hP hS hl
    replace h : ((5 ≤ v4 → (∃ k, wMhashOfD_32 post  k I J cn cm so v2 0)) ∧ (¬ 5 ≤ v4 → (vp_in v4 5 ∧ (wMtaken (fun r3 I_3 J_3 cn_3 cm_3 so_3 => ((wMhashOfD_7 post  n) I_3 J_3 cn_3 cm_3 so_3 r3 (v4 + 1))) I J cn cm so v2 (Int32.toInt64 (I 8 (Int32.toNatClampNeg v4))))))) := h
    refine lv_iload hx hb dXM_hashOf_7 (lv_at hl 3 rfl) ?_
    refine lv_iconst (v := 5) hx hb dXM_hashOf_9 (by decide) ?_
    refine lv_icmp_ge (tgt := 29) hx hb dXM_hashOf_10 (by decide) (fun c1 => ?_) (fun c1 => ?_)
    · replace h := h.1 c1
      refine lv_iconst (v := 0) hx hb dXM_hashOf_29 (by decide) ?_
      refine lv_istore (lv' := [(4, .int 0), (0, .ref (ad 14)), (1, .ref (ad 15)), (2, .long v2)]) hx hb dXM_hashOf_30 hl (by decide) rfl (fun ls hl => ?_)
      obtain ⟨k, h⟩ := h
      exact sMhashOfD_32  C0  k I J cn cm so v2 0 h H locs ls hP hS (lv_sub hl [1, 2, 3, 0] rfl)
    · replace h := h.2 c1
      refine lv_lload_n hx hb dXM_hashOf_13 rfl (lv_at hl 2 rfl) ?_
      refine lv_aload_n hx hb dXM_hashOf_14 rfl (lv_at hl 0 rfl) ?_
      refine lv_iload hx hb dXM_hashOf_15 (lv_at hl 3 rfl) ?_
      obtain ⟨h2, h⟩ := h
      refine ma_14 hx hb hK hP h2 dXM_hashOf_17 ?_
      refine lv_i2l (v := Int32.toInt64 (I 8 (Int32.toNatClampNeg v4))) hx hb dXM_hashOf_18 rfl ?_
      refine va_calll (va_runS (As := [.long v2, .long (Int32.toInt64 (I 8 (Int32.toNatClampNeg v4)))]) (rest := []) ⟨hx, hb, hml, hown, hts⟩ (cMtaken hD h) (fx_cwS 2 hts gw_M_72 hdXM_taken ⟨Nat.le_of_ble_eq_true rfl, Nat.le_of_ble_eq_true rfl⟩) (fx_preS hP hK hN) rfl rfl hl.1 rfl (lv_room (Nat.le_of_ble_eq_true rfl)) dXM_hashOf_19 ⟨Nat.le_of_ble_eq_true rfl, Nat.le_of_ble_eq_true rfl⟩) hS (fun _ _ q => q) (fun _ q => q) (fun r3 u t H locs ht hvm h hP hz hk hS => ?_)
      rw [fxC, ht] at hP
      obtain ⟨I_3, J_3, cn_3, cm_3, so_3⟩ := u
      dsimp only at h
      refine lv_lstore_n (lv' := [(2, .long r3), (0, .ref (ad 14)), (1, .ref (ad 15)), (4, .int v4)]) hx hb dXM_hashOf_22 rfl hl (by decide) rfl (fun ls hl => ?_)
      refine lv_iinc (v := v4 + 1) (lv' := [(4, .int (v4 + 1)), (2, .long r3), (0, .ref (ad 14)), (1, .ref (ad 15))]) hx hb dXM_hashOf_23 hl (k := 3) rfl rfl (by decide) rfl (fun ls hl => ?_)
      refine lv_goto (tgt := 7) hx hb dXM_hashOf_26 (by decide) ?_
      exact hK7 I_3 J_3 cn_3 cm_3 so_3 r3 (v4 + 1) h H locs ls hP hS (lv_sub hl [2, 3, 1, 0] rfl)
set_option maxRecDepth 100000 in
set_option maxHeartbeats 4000000 in
theorem sMhashOfD_in {p : Program} {l : Launch} {e : Env} {s : State} {m : MethodId} {args : Array Value} {below : List Frame} {meth : Method} {c : Code} {D : va_G} {A : Nat → Prop} {h0 : Nat} {ad : Nat → Nat} {cI cL : ClassId} {post : Int64 → (Nat → Nat → Int32) → (Nat → Nat → Int64) → Int32 → Int64 → Int32 → Prop} (C0 : mCx p s m args meth c D A h0 ad cI cL cXM_hashOf 5 (some .long)) : ∀ (I : Nat → Nat → Int32) (J : Nat → Nat → Int64) (cn : Int32) (cm : Int64) (so : Int32), wMhashOfD post I J cn cm so → ∀ (H : Heap) (locs : List Loc) (ls : Array Slot), mW D h0 ad cI cL (I, J, cn, cm, so) H → va_S A s.heap H locs → lv_has ls 5 [(0, .ref (ad 14)), (1, .ref (ad 15))] → W p l e ({ frames := 1, cells := 0, slots := 0, locals := 25 } : Room) s m args below meth c H locs 0 0 (MQ below (va_Ql (fun (r : Int64) (u : mS) => post r u.1 u.2.1 u.2.2.1 u.2.2.2.1 u.2.2.2.2) (fxC (mW D h0 ad cI cL)) A) args s 0 0 A) (F0 m 0 ls []) := by
  obtain ⟨hx, hb, hr, hml, hown, hts, hlocks, hK, hN, hD⟩ := id C0
  intro I J cn cm so h H locs ls hP hS hl
  replace h : (∃ k, wMhashOfD_7 post  k I J cn cm so 6148914691236517205 0) := h
  refine lv_ldc2 (v := 6148914691236517205) hx hb hown (hts (.constantLong RXM 70 6148914691236517205) (fx_m (by decide +kernel))) dXM_hashOf_0 ?_
  refine lv_lstore_n (lv' := [(2, .long 6148914691236517205), (0, .ref (ad 14)), (1, .ref (ad 15))]) hx hb dXM_hashOf_3 rfl hl (by decide) rfl (fun ls hl => ?_)
  refine lv_iconst (v := 0) hx hb dXM_hashOf_4 (by decide) ?_
  refine lv_istore (lv' := [(4, .int 0), (2, .long 6148914691236517205), (0, .ref (ad 14)), (1, .ref (ad 15))]) hx hb dXM_hashOf_5 hl (by decide) rfl (fun ls hl => ?_)
  obtain ⟨k, h⟩ := h
  exact sMhashOfD_7  C0  k I J cn cm so 6148914691236517205 0 h H locs ls hP hS (lv_sub hl [2, 3, 1, 0] rfl)
set_option maxRecDepth 100000 in
set_option maxHeartbeats 4000000 in
theorem cMhashOfD {l : Launch} {D : va_G} {A : Nat → Prop} {h0 : Nat} {ad : Nat → Nat} {cI cL : ClassId} (hD : mDs A h0 ad cI cL) {post : Int64 → (Nat → Nat → Int32) → (Nat → Nat → Int64) → Int32 → Int64 → Int32 → Prop} {I : Nat → Nat → Int32} {J : Nat → Nat → Int64} {cn : Int32} {cm : Int64} {so : Int32} (h : wMhashOfD post I J cn cm so) : Met l yXM_hashOf (.code yXM_hashOf cXM_hashOf 5 (some .long) :: lg_tbl) ({ frames := 1, cells := 0, slots := 0, locals := 25 } : Room) (va_Pc [.ref (ad 14), .ref (ad 15)] (fxB (mW D h0 ad cI cL (I, J, cn, cm, so)) D vwCl (mTy cI cL))) (va_Ql (fun (r : Int64) (u : mS) => post r u.1 u.2.1 u.2.2.1 u.2.2.2.1 u.2.2.2.2) (fxC (mW D h0 ad cI cL)) A) 0 0 A := by
  refine fx_start (by decide +kernel) (Nat.le_of_ble_eq_true rfl) ?_
  intro p e s m below meth c ls hx hb hr hml hown hts hlocks hnm hB hl
  exact sMhashOfD_in ⟨hx, hb, hr, hml, hown, hts, hlocks, hB.2.1, hB.2.2, hD⟩ I J cn cm so h _ _ ls hB.1 va_S.rf hl
noncomputable def wMfind_5 (post : Int32 → (Nat → Nat → Int32) → (Nat → Nat → Int64) → Int32 → Int64 → Int32 → Prop) (n : Nat) : (Nat → Nat → Int32) → (Nat → Nat → Int64) → Int32 → Int64 → Int32 → Int64 → Int32 → Int32 → Prop := Nat.rec (motive := fun _ => (Nat → Nat → Int32) → (Nat → Nat → Int64) → Int32 → Int64 → Int32 → Int64 → Int32 → Int32 → Prop) (fun _ _ _ _ _ _ _ _ => False) (fun _ K5 I J cn cm so v1 v3 v4 => ((cn ≤ v4 → (post v3 I J cn cm so)) ∧ (¬ cn ≤ v4 → (vp_in v4 40 ∧ ((¬ (lg_cmp (J 0 (Int32.toNatClampNeg v4)) v1) = 0 → (K5 I J cn cm so v1 v3 (v4 + 1))) ∧ ((lg_cmp (J 0 (Int32.toNatClampNeg v4)) v1) = 0 → (K5 I J cn cm so v1 v4 (v4 + 1)))))))) n
def wMfind (post : Int32 → (Nat → Nat → Int32) → (Nat → Nat → Int64) → Int32 → Int64 → Int32 → Prop) (I : Nat → Nat → Int32) (J : Nat → Nat → Int64) (cn : Int32) (cm : Int64) (so : Int32) (a1 : Int64) : Prop := (∃ k, wMfind_5 post  k I J cn cm so a1 (-1) 0)
set_option maxRecDepth 100000 in
set_option maxHeartbeats 4000000 in
theorem sMfind_5 {p : Program} {l : Launch} {e : Env} {s : State} {m : MethodId} {args : Array Value} {below : List Frame} {meth : Method} {c : Code} {D : va_G} {A : Nat → Prop} {h0 : Nat} {ad : Nat → Nat} {cI cL : ClassId} {post : Int32 → (Nat → Nat → Int32) → (Nat → Nat → Int64) → Int32 → Int64 → Int32 → Prop} (C0 : mCx p s m args meth c D A h0 ad cI cL cXM_find 5 (some .int)) : ∀ (n : Nat) (I : Nat → Nat → Int32) (J : Nat → Nat → Int64) (cn : Int32) (cm : Int64) (so : Int32) (v1 : Int64) (v3 : Int32) (v4 : Int32), wMfind_5 post  n I J cn cm so v1 v3 v4 → ∀ (H : Heap) (locs : List Loc) (ls : Array Slot), mW D h0 ad cI cL (I, J, cn, cm, so) H → va_S A s.heap H locs → lv_has ls 5 [(0, .ref h0), (1, .long v1), (3, .int v3), (4, .int v4)] → W p l e ({ frames := 0, cells := 0, slots := 0, locals := 0 } : Room) s m args below meth c H locs 0 0 (MQ below (va_Qi (fun (r : Int32) (u : mS) => post r u.1 u.2.1 u.2.2.1 u.2.2.2.1 u.2.2.2.2) (fxC (mW D h0 ad cI cL)) A) args s 0 0 A) (F0 m 5 ls []) := by
  obtain ⟨hx, hb, hr, hml, hown, hts, hlocks, hK, hN, hD⟩ := id C0
  intro n
  induction n with
  | zero => exact fun _ _ _ _ _ _ _ _ h => h.elim
  | succ n hK5 =>
    intro I J cn cm so v1 v3 v4 h H locs ls hP hS hl
    replace h : ((cn ≤ v4 → (post v3 I J cn cm so)) ∧ (¬ cn ≤ v4 → (vp_in v4 40 ∧ ((¬ (lg_cmp (J 0 (Int32.toNatClampNeg v4)) v1) = 0 → ((wMfind_5 post  n) I J cn cm so v1 v3 (v4 + 1))) ∧ ((lg_cmp (J 0 (Int32.toNatClampNeg v4)) v1) = 0 → ((wMfind_5 post  n) I J cn cm so v1 v4 (v4 + 1))))))) := h
    refine lv_iload hx hb dXM_find_5 (lv_at hl 3 rfl) ?_
    refine lv_aload_n hx hb dXM_find_7 rfl (lv_at hl 0 rfl) ?_
    refine mg_count hx hb hown hts hK hP dXM_find_8 ?_
    refine lv_icmp_ge (tgt := 39) hx hb dXM_find_11 (by decide) (fun c1 => ?_) (fun c1 => ?_)
    · replace h := h.1 c1
      refine lv_iload_n hx hb dXM_find_39 rfl (lv_at hl 2 rfl) ?_
      exact W.iret hx hb hr (fun t ht hW => ⟨⟨_, (I, J, cn, cm, so), rfl, h, by rw [fxC, ht]; exact hP⟩, hS.F ht⟩) hS.2.2 dXM_find_40 hlocks
    · replace h := h.2 c1
      refine lv_aload_n hx hb dXM_find_14 rfl (lv_at hl 0 rfl) ?_
      refine mg_hash hx hb hown hts hK hP dXM_find_15 ?_
      refine lv_iload hx hb dXM_find_18 (lv_at hl 3 rfl) ?_
      obtain ⟨h2, h⟩ := h
      refine ma_0 hx hb hK hP h2 dXM_find_20 ?_
      refine lv_lload_n hx hb dXM_find_21 rfl (lv_at hl 1 rfl) ?_
      refine W.lcmp hx hb dXM_find_22 ?_
      refine lv_if_ne (tgt := 31) hx hb dXM_find_23 (by decide) (fun c3 => ?_) (fun c3 => ?_)
      · replace h := h.1 c3
        refine lv_iload_n hx hb dXM_find_31 rfl (lv_at hl 2 rfl) ?_
        refine lv_istore_n (lv' := [(3, .int v3), (0, .ref h0), (1, .long v1), (4, .int v4)]) hx hb dXM_find_32 rfl hl (by decide) rfl (fun ls hl => ?_)
        refine lv_iinc (v := v4 + 1) (lv' := [(4, .int (v4 + 1)), (3, .int v3), (0, .ref h0), (1, .long v1)]) hx hb dXM_find_33 hl (k := 3) rfl rfl (by decide) rfl (fun ls hl => ?_)
        refine lv_goto (tgt := 5) hx hb dXM_find_36 (by decide) ?_
        exact hK5 I J cn cm so v1 v3 (v4 + 1) h H locs ls hP hS (lv_sub hl [2, 3, 1, 0] rfl)
      · replace h := h.2 c3
        refine lv_iload hx hb dXM_find_26 (lv_at hl 3 rfl) ?_
        refine lv_goto (tgt := 32) hx hb dXM_find_28 (by decide) ?_
        refine lv_istore_n (lv' := [(3, .int v4), (0, .ref h0), (1, .long v1), (4, .int v4)]) hx hb dXM_find_32 rfl hl (by decide) rfl (fun ls hl => ?_)
        refine lv_iinc (v := v4 + 1) (lv' := [(4, .int (v4 + 1)), (3, .int v4), (0, .ref h0), (1, .long v1)]) hx hb dXM_find_33 hl (k := 3) rfl rfl (by decide) rfl (fun ls hl => ?_)
        refine lv_goto (tgt := 5) hx hb dXM_find_36 (by decide) ?_
        exact hK5 I J cn cm so v1 v4 (v4 + 1) h H locs ls hP hS (lv_sub hl [2, 3, 1, 0] rfl)
set_option maxRecDepth 100000 in
set_option maxHeartbeats 4000000 in
theorem sMfind_in {p : Program} {l : Launch} {e : Env} {s : State} {m : MethodId} {args : Array Value} {below : List Frame} {meth : Method} {c : Code} {D : va_G} {A : Nat → Prop} {h0 : Nat} {ad : Nat → Nat} {cI cL : ClassId} {post : Int32 → (Nat → Nat → Int32) → (Nat → Nat → Int64) → Int32 → Int64 → Int32 → Prop} (C0 : mCx p s m args meth c D A h0 ad cI cL cXM_find 5 (some .int)) : ∀ (I : Nat → Nat → Int32) (J : Nat → Nat → Int64) (cn : Int32) (cm : Int64) (so : Int32) (a1 : Int64), wMfind post I J cn cm so a1 → ∀ (H : Heap) (locs : List Loc) (ls : Array Slot), mW D h0 ad cI cL (I, J, cn, cm, so) H → va_S A s.heap H locs → lv_has ls 5 [(0, .ref h0), (1, .long a1)] → W p l e ({ frames := 0, cells := 0, slots := 0, locals := 0 } : Room) s m args below meth c H locs 0 0 (MQ below (va_Qi (fun (r : Int32) (u : mS) => post r u.1 u.2.1 u.2.2.1 u.2.2.2.1 u.2.2.2.2) (fxC (mW D h0 ad cI cL)) A) args s 0 0 A) (F0 m 0 ls []) := by
  obtain ⟨hx, hb, hr, hml, hown, hts, hlocks, hK, hN, hD⟩ := id C0
  intro I J cn cm so a1 h H locs ls hP hS hl
  replace h : (∃ k, wMfind_5 post  k I J cn cm so a1 (-1) 0) := h
  refine lv_iconst (v := (-1)) hx hb dXM_find_0 (by decide) ?_
  refine lv_istore_n (lv' := [(3, .int (-1)), (0, .ref h0), (1, .long a1)]) hx hb dXM_find_1 rfl hl (by decide) rfl (fun ls hl => ?_)
  refine lv_iconst (v := 0) hx hb dXM_find_2 (by decide) ?_
  refine lv_istore (lv' := [(4, .int 0), (3, .int (-1)), (0, .ref h0), (1, .long a1)]) hx hb dXM_find_3 hl (by decide) rfl (fun ls hl => ?_)
  obtain ⟨k, h⟩ := h
  exact sMfind_5  C0  k I J cn cm so a1 (-1) 0 h H locs ls hP hS (lv_sub hl [2, 3, 1, 0] rfl)
set_option maxRecDepth 100000 in
set_option maxHeartbeats 4000000 in
theorem cMfind {l : Launch} {D : va_G} {A : Nat → Prop} {h0 : Nat} {ad : Nat → Nat} {cI cL : ClassId} (hD : mDs A h0 ad cI cL) {post : Int32 → (Nat → Nat → Int32) → (Nat → Nat → Int64) → Int32 → Int64 → Int32 → Prop} {I : Nat → Nat → Int32} {J : Nat → Nat → Int64} {cn : Int32} {cm : Int64} {so : Int32} {a1 : Int64} (h : wMfind post I J cn cm so a1) : Met l yXM_find (.code yXM_find cXM_find 5 (some .int) :: lg_tbl) ({ frames := 0, cells := 0, slots := 0, locals := 0 } : Room) (va_Pc [.ref h0, .long a1] (fxB (mW D h0 ad cI cL (I, J, cn, cm, so)) D vwCl (mTy cI cL))) (va_Qi (fun (r : Int32) (u : mS) => post r u.1 u.2.1 u.2.2.1 u.2.2.2.1 u.2.2.2.2) (fxC (mW D h0 ad cI cL)) A) 0 0 A := by
  refine fx_start (by decide +kernel) (Nat.le_of_ble_eq_true rfl) ?_
  intro p e s m below meth c ls hx hb hr hml hown hts hlocks hnm hB hl
  exact sMfind_in ⟨hx, hb, hr, hml, hown, hts, hlocks, hB.2.1, hB.2.2, hD⟩ I J cn cm so a1 h _ _ ls hB.1 va_S.rf hl
def wMin (post : Int32 → (Nat → Nat → Int32) → (Nat → Nat → Int64) → Int32 → Int64 → Int32 → Prop) (I : Nat → Nat → Int32) (J : Nat → Nat → Int64) (cn : Int32) (cm : Int64) (so : Int32) (a1 : Int64) (a2 : Int32) : Prop := ((a2 < 0 → (post 0 I J cn cm so)) ∧ (¬ a2 < 0 → ((¬ (lg_cmp ((hj_shr a1 a2) &&& 1) 1) = 0 → (post 0 I J cn cm so)) ∧ ((lg_cmp ((hj_shr a1 a2) &&& 1) 1) = 0 → (post 1 I J cn cm so)))))
set_option maxRecDepth 100000 in
set_option maxHeartbeats 4000000 in
theorem sMin_in {p : Program} {l : Launch} {e : Env} {s : State} {m : MethodId} {args : Array Value} {below : List Frame} {meth : Method} {c : Code} {D : va_G} {A : Nat → Prop} {h0 : Nat} {ad : Nat → Nat} {cI cL : ClassId} {post : Int32 → (Nat → Nat → Int32) → (Nat → Nat → Int64) → Int32 → Int64 → Int32 → Prop} (C0 : mCx p s m args meth c D A h0 ad cI cL cXM_in 3 (some .boolean)) : ∀ (I : Nat → Nat → Int32) (J : Nat → Nat → Int64) (cn : Int32) (cm : Int64) (so : Int32) (a1 : Int64) (a2 : Int32), wMin post I J cn cm so a1 a2 → ∀ (H : Heap) (locs : List Loc) (ls : Array Slot), mW D h0 ad cI cL (I, J, cn, cm, so) H → va_S A s.heap H locs → lv_has ls 3 [(0, .long a1), (2, .int a2)] → W p l e ({ frames := 0, cells := 0, slots := 0, locals := 0 } : Room) s m args below meth c H locs 0 0 (MQ below (va_Qi (fun (r : Int32) (u : mS) => post r u.1 u.2.1 u.2.2.1 u.2.2.2.1 u.2.2.2.2) (fxC (mW D h0 ad cI cL)) A) args s 0 0 A) (F0 m 0 ls []) := by
  obtain ⟨hx, hb, hr, hml, hown, hts, hlocks, hK, hN, hD⟩ := id C0
  intro I J cn cm so a1 a2 h H locs ls hP hS hl
  replace h : ((a2 < 0 → (post 0 I J cn cm so)) ∧ (¬ a2 < 0 → ((¬ (lg_cmp ((hj_shr a1 a2) &&& 1) 1) = 0 → (post 0 I J cn cm so)) ∧ ((lg_cmp ((hj_shr a1 a2) &&& 1) 1) = 0 → (post 1 I J cn cm so))))) := h
  refine lv_iload_n hx hb dXM_in_0 rfl (lv_at hl 1 rfl) ?_
  refine lv_if_lt (tgt := 18) hx hb dXM_in_1 (by decide) (fun c1 => ?_) (fun c1 => ?_)
  · replace h := h.1 c1
    refine lv_iconst (v := 0) hx hb dXM_in_18 (by decide) ?_
    exact W.zret hx hb hr rfl (fun t ht hW => ⟨⟨_, (I, J, cn, cm, so), rfl, h, by rw [fxC, ht]; exact hP⟩, hS.F ht⟩) hS.2.2 dXM_in_19 hlocks
  · replace h := h.2 c1
    refine lv_lload_n hx hb dXM_in_4 rfl (lv_at hl 0 rfl) ?_
    refine lv_iload_n hx hb dXM_in_5 rfl (lv_at hl 1 rfl) ?_
    refine lv_lshr (v := hj_shr a1 a2) hx hb dXM_in_6 rfl ?_
    refine lv_lconst (v := 1) hx hb dXM_in_7 (by decide) ?_
    refine lv_land hx hb dXM_in_8 ?_
    refine lv_lconst (v := 1) hx hb dXM_in_9 (by decide) ?_
    refine W.lcmp hx hb dXM_in_10 ?_
    refine lv_if_ne (tgt := 18) hx hb dXM_in_11 (by decide) (fun c2 => ?_) (fun c2 => ?_)
    · replace h := h.1 c2
      refine lv_iconst (v := 0) hx hb dXM_in_18 (by decide) ?_
      exact W.zret hx hb hr rfl (fun t ht hW => ⟨⟨_, (I, J, cn, cm, so), rfl, h, by rw [fxC, ht]; exact hP⟩, hS.F ht⟩) hS.2.2 dXM_in_19 hlocks
    · replace h := h.2 c2
      refine lv_iconst (v := 1) hx hb dXM_in_14 (by decide) ?_
      refine lv_goto (tgt := 19) hx hb dXM_in_15 (by decide) ?_
      exact W.zret hx hb hr rfl (fun t ht hW => ⟨⟨_, (I, J, cn, cm, so), rfl, h, by rw [fxC, ht]; exact hP⟩, hS.F ht⟩) hS.2.2 dXM_in_19 hlocks
set_option maxRecDepth 100000 in
set_option maxHeartbeats 4000000 in
theorem cMin {l : Launch} {D : va_G} {A : Nat → Prop} {h0 : Nat} {ad : Nat → Nat} {cI cL : ClassId} (hD : mDs A h0 ad cI cL) {post : Int32 → (Nat → Nat → Int32) → (Nat → Nat → Int64) → Int32 → Int64 → Int32 → Prop} {I : Nat → Nat → Int32} {J : Nat → Nat → Int64} {cn : Int32} {cm : Int64} {so : Int32} {a1 : Int64} {a2 : Int32} (h : wMin post I J cn cm so a1 a2) : Met l yXM_in (.code yXM_in cXM_in 3 (some .boolean) :: lg_tbl) ({ frames := 0, cells := 0, slots := 0, locals := 0 } : Room) (va_Pc [.long a1, .int a2] (fxB (mW D h0 ad cI cL (I, J, cn, cm, so)) D vwCl (mTy cI cL))) (va_Qi (fun (r : Int32) (u : mS) => post r u.1 u.2.1 u.2.2.1 u.2.2.2.1 u.2.2.2.2) (fxC (mW D h0 ad cI cL)) A) 0 0 A := by
  refine fx_start (by decide +kernel) (Nat.le_of_ble_eq_true rfl) ?_
  intro p e s m below meth c ls hx hb hr hml hown hts hlocks hnm hB hl
  exact sMin_in ⟨hx, hb, hr, hml, hown, hts, hlocks, hB.2.1, hB.2.2, hD⟩ I J cn cm so a1 a2 h _ _ ls hB.1 va_S.rf hl
noncomputable def wMbecome_72 (post : (Nat → Nat → Int32) → (Nat → Nat → Int64) → Int32 → Int64 → Int32 → Prop) (n : Nat) : (Nat → Nat → Int32) → (Nat → Nat → Int64) → Int32 → Int64 → Int32 → Int32 → Int32 → Prop := Nat.rec (motive := fun _ => (Nat → Nat → Int32) → (Nat → Nat → Int64) → Int32 → Int64 → Int32 → Int32 → Int32 → Prop) (fun _ _ _ _ _ _ _ => False) (fun _ K72 I J cn cm so v1 v2 => ((4 ≤ v2 → (post I J cn cm so)) ∧ (¬ 4 ≤ v2 → (vp_in ((4 * v1) + v2) 160 ∧ (vp_in v2 4 ∧ ∀ J20, J20 = mj_up J 7 (Int32.toNatClampNeg v2) (J 1 (Int32.toNatClampNeg ((4 * v1) + v2))) → (K72 I J20 cn cm so v1 (v2 + 1))))))) n
def wMbecome (post : (Nat → Nat → Int32) → (Nat → Nat → Int64) → Int32 → Int64 → Int32 → Prop) (I : Nat → Nat → Int32) (J : Nat → Nat → Int64) (cn : Int32) (cm : Int64) (so : Int32) (a1 : Int32) : Prop := (vp_in a1 40 ∧ ∀ x2, x2 = J 0 (Int32.toNatClampNeg a1) → (vp_in a1 40 ∧ (vp_in 0 5 ∧ ∀ I4, I4 = mi_up I 9 (Int32.toNatClampNeg 0) (I 0 (Int32.toNatClampNeg a1)) → (vp_in a1 40 ∧ (vp_in 1 5 ∧ ∀ I7, I7 = mi_up I4 9 (Int32.toNatClampNeg 1) (I4 1 (Int32.toNatClampNeg a1)) → (vp_in a1 40 ∧ (vp_in 2 5 ∧ ∀ I10, I10 = mi_up I7 9 (Int32.toNatClampNeg 2) (I7 2 (Int32.toNatClampNeg a1)) → (vp_in a1 40 ∧ (vp_in 3 5 ∧ ∀ I13, I13 = mi_up I10 9 (Int32.toNatClampNeg 3) (I10 3 (Int32.toNatClampNeg a1)) → (vp_in a1 40 ∧ (vp_in 4 5 ∧ ∀ I16, I16 = mi_up I13 9 (Int32.toNatClampNeg 4) (I13 4 (Int32.toNatClampNeg a1)) → (∃ k, wMbecome_72 post  k I16 J cn x2 so a1 0))))))))))))
set_option maxRecDepth 100000 in
set_option maxHeartbeats 4000000 in
theorem sMbecome_72 {p : Program} {l : Launch} {e : Env} {s : State} {m : MethodId} {args : Array Value} {below : List Frame} {meth : Method} {c : Code} {D : va_G} {A : Nat → Prop} {h0 : Nat} {ad : Nat → Nat} {cI cL : ClassId} {post : (Nat → Nat → Int32) → (Nat → Nat → Int64) → Int32 → Int64 → Int32 → Prop} (C0 : mCx p s m args meth c D A h0 ad cI cL cXM_become 3 none) : ∀ (n : Nat) (I : Nat → Nat → Int32) (J : Nat → Nat → Int64) (cn : Int32) (cm : Int64) (so : Int32) (v1 : Int32) (v2 : Int32), wMbecome_72 post  n I J cn cm so v1 v2 → ∀ (H : Heap) (locs : List Loc) (ls : Array Slot), mW D h0 ad cI cL (I, J, cn, cm, so) H → va_S A s.heap H locs → lv_has ls 3 [(0, .ref h0), (1, .int v1), (2, .int v2)] → W p l e ({ frames := 0, cells := 0, slots := 0, locals := 0 } : Room) s m args below meth c H locs 0 0 (MQ below (va_Qv (fun (u : mS) => post u.1 u.2.1 u.2.2.1 u.2.2.2.1 u.2.2.2.2) (fxC (mW D h0 ad cI cL)) A) args s 0 0 A) (F0 m 72 ls []) := by
  obtain ⟨hx, hb, hr, hml, hown, hts, hlocks, hK, hN, hD⟩ := id C0
  intro n
  induction n with
  | zero => exact fun _ _ _ _ _ _ _ h => h.elim
  | succ n hK72 =>
    intro I J cn cm so v1 v2 h H locs ls hP hS hl
    replace h : ((4 ≤ v2 → (post I J cn cm so)) ∧ (¬ 4 ≤ v2 → (vp_in ((4 * v1) + v2) 160 ∧ (vp_in v2 4 ∧ ∀ J20, J20 = mj_up J 7 (Int32.toNatClampNeg v2) (J 1 (Int32.toNatClampNeg ((4 * v1) + v2))) → ((wMbecome_72 post  n) I J20 cn cm so v1 (v2 + 1)))))) := h
    refine lv_iload_n hx hb dXM_become_72 rfl (lv_at hl 2 rfl) ?_
    refine lv_iconst (v := 4) hx hb dXM_become_73 (by decide) ?_
    refine lv_icmp_ge (tgt := 99) hx hb dXM_become_74 (by decide) (fun c18 => ?_) (fun c18 => ?_)
    · replace h := h.1 c18
      exact W.vret hx hb hr (fun t ht hW => ⟨⟨(I, J, cn, cm, so), rfl, h, by rw [fxC, ht]; exact hP⟩, hS.F ht⟩) hS.2.2 dXM_become_99 hlocks
    · replace h := h.2 c18
      refine lv_aload_n hx hb dXM_become_77 rfl (lv_at hl 0 rfl) ?_
      refine mg_comingLink hx hb hown hts hK hP dXM_become_78 ?_
      refine lv_iload_n hx hb dXM_become_81 rfl (lv_at hl 2 rfl) ?_
      refine lv_aload_n hx hb dXM_become_82 rfl (lv_at hl 0 rfl) ?_
      refine mg_link hx hb hown hts hK hP dXM_become_83 ?_
      refine lv_iconst (v := 4) hx hb dXM_become_86 (by decide) ?_
      refine lv_iload_n hx hb dXM_become_87 rfl (lv_at hl 1 rfl) ?_
      refine lv_imul hx hb dXM_become_88 ?_
      refine lv_iload_n hx hb dXM_become_89 rfl (lv_at hl 2 rfl) ?_
      refine lv_iadd hx hb dXM_become_90 ?_
      obtain ⟨h19, h⟩ := h
      refine ma_6 hx hb hK hP h19 dXM_become_91 ?_
      obtain ⟨h21, h⟩ := h
      obtain ⟨J20, eJ20⟩ : ∃ y, y = mj_up J 7 (Int32.toNatClampNeg v2) (J 1 (Int32.toNatClampNeg ((4 * v1) + v2))) := ⟨_, rfl⟩
      replace h := h J20 eJ20
      refine ms_17 hx hb hK hD hP hS h21 dXM_become_92 (fun H locs hP hS => ?_)
      rw [← eJ20] at hP
      refine lv_iinc (v := v2 + 1) (lv' := [(2, .int (v2 + 1)), (0, .ref h0), (1, .int v1)]) hx hb dXM_become_93 hl (k := 2) rfl rfl (by decide) rfl (fun ls hl => ?_)
      refine lv_goto (tgt := 72) hx hb dXM_become_96 (by decide) ?_
      exact hK72 I J20 cn cm so v1 (v2 + 1) h H locs ls hP hS (lv_sub hl [1, 2, 0] rfl)
set_option maxRecDepth 100000 in
set_option maxHeartbeats 4000000 in
theorem sMbecome_in {p : Program} {l : Launch} {e : Env} {s : State} {m : MethodId} {args : Array Value} {below : List Frame} {meth : Method} {c : Code} {D : va_G} {A : Nat → Prop} {h0 : Nat} {ad : Nat → Nat} {cI cL : ClassId} {post : (Nat → Nat → Int32) → (Nat → Nat → Int64) → Int32 → Int64 → Int32 → Prop} (C0 : mCx p s m args meth c D A h0 ad cI cL cXM_become 3 none) : ∀ (I : Nat → Nat → Int32) (J : Nat → Nat → Int64) (cn : Int32) (cm : Int64) (so : Int32) (a1 : Int32), wMbecome post I J cn cm so a1 → ∀ (H : Heap) (locs : List Loc) (ls : Array Slot), mW D h0 ad cI cL (I, J, cn, cm, so) H → va_S A s.heap H locs → lv_has ls 3 [(0, .ref h0), (1, .int a1)] → W p l e ({ frames := 0, cells := 0, slots := 0, locals := 0 } : Room) s m args below meth c H locs 0 0 (MQ below (va_Qv (fun (u : mS) => post u.1 u.2.1 u.2.2.1 u.2.2.2.1 u.2.2.2.2) (fxC (mW D h0 ad cI cL)) A) args s 0 0 A) (F0 m 0 ls []) := by
  obtain ⟨hx, hb, hr, hml, hown, hts, hlocks, hK, hN, hD⟩ := id C0
  intro I J cn cm so a1 h H locs ls hP hS hl
  replace h : (vp_in a1 40 ∧ ∀ x2, x2 = J 0 (Int32.toNatClampNeg a1) → (vp_in a1 40 ∧ (vp_in 0 5 ∧ ∀ I4, I4 = mi_up I 9 (Int32.toNatClampNeg 0) (I 0 (Int32.toNatClampNeg a1)) → (vp_in a1 40 ∧ (vp_in 1 5 ∧ ∀ I7, I7 = mi_up I4 9 (Int32.toNatClampNeg 1) (I4 1 (Int32.toNatClampNeg a1)) → (vp_in a1 40 ∧ (vp_in 2 5 ∧ ∀ I10, I10 = mi_up I7 9 (Int32.toNatClampNeg 2) (I7 2 (Int32.toNatClampNeg a1)) → (vp_in a1 40 ∧ (vp_in 3 5 ∧ ∀ I13, I13 = mi_up I10 9 (Int32.toNatClampNeg 3) (I10 3 (Int32.toNatClampNeg a1)) → (vp_in a1 40 ∧ (vp_in 4 5 ∧ ∀ I16, I16 = mi_up I13 9 (Int32.toNatClampNeg 4) (I13 4 (Int32.toNatClampNeg a1)) → (∃ k, wMbecome_72 post  k I16 J cn x2 so a1 0)))))))))))) := h
  refine lv_aload_n hx hb dXM_become_0 rfl (lv_at hl 0 rfl) ?_
  refine lv_aload_n hx hb dXM_become_1 rfl (lv_at hl 0 rfl) ?_
  refine mg_hash hx hb hown hts hK hP dXM_become_2 ?_
  refine lv_iload_n hx hb dXM_become_5 rfl (lv_at hl 1 rfl) ?_
  obtain ⟨h1, h⟩ := h
  refine ma_0 hx hb hK hP h1 dXM_become_6 ?_
  refine lv_topl (fun x2 ex2 => ?_)
  replace h := h x2 ex2
  refine mp_coming hx hb hown hts hK hD hP hS dXM_become_7 (fun H locs hP hS => ?_)
  refine lv_aload_n hx hb dXM_become_10 rfl (lv_at hl 0 rfl) ?_
  refine mg_numbers hx hb hown hts hK hP dXM_become_11 ?_
  refine lv_iconst (v := 0) hx hb dXM_become_14 (by decide) ?_
  refine lv_aload_n hx hb dXM_become_15 rfl (lv_at hl 0 rfl) ?_
  refine mg_author hx hb hown hts hK hP dXM_become_16 ?_
  refine lv_iload_n hx hb dXM_become_19 rfl (lv_at hl 1 rfl) ?_
  obtain ⟨h3, h⟩ := h
  refine ma_1 hx hb hK hP h3 dXM_become_20 ?_
  obtain ⟨h5, h⟩ := h
  obtain ⟨I4, eI4⟩ : ∃ y, y = mi_up I 9 (Int32.toNatClampNeg 0) (I 0 (Int32.toNatClampNeg a1)) := ⟨_, rfl⟩
  replace h := h I4 eI4
  refine ms_16 hx hb hK hD hP hS h5 dXM_become_21 (fun H locs hP hS => ?_)
  rw [← eI4] at hP
  refine lv_aload_n hx hb dXM_become_22 rfl (lv_at hl 0 rfl) ?_
  refine mg_numbers hx hb hown hts hK hP dXM_become_23 ?_
  refine lv_iconst (v := 1) hx hb dXM_become_26 (by decide) ?_
  refine lv_aload_n hx hb dXM_become_27 rfl (lv_at hl 0 rfl) ?_
  refine mg_kind hx hb hown hts hK hP dXM_become_28 ?_
  refine lv_iload_n hx hb dXM_become_31 rfl (lv_at hl 1 rfl) ?_
  obtain ⟨h6, h⟩ := h
  refine ma_2 hx hb hK hP h6 dXM_become_32 ?_
  obtain ⟨h8, h⟩ := h
  obtain ⟨I7, eI7⟩ : ∃ y, y = mi_up I4 9 (Int32.toNatClampNeg 1) (I4 1 (Int32.toNatClampNeg a1)) := ⟨_, rfl⟩
  replace h := h I7 eI7
  refine ms_16 hx hb hK hD hP hS h8 dXM_become_33 (fun H locs hP hS => ?_)
  rw [← eI7] at hP
  refine lv_aload_n hx hb dXM_become_34 rfl (lv_at hl 0 rfl) ?_
  refine mg_numbers hx hb hown hts hK hP dXM_become_35 ?_
  refine lv_iconst (v := 2) hx hb dXM_become_38 (by decide) ?_
  refine lv_aload_n hx hb dXM_become_39 rfl (lv_at hl 0 rfl) ?_
  refine mg_key hx hb hown hts hK hP dXM_become_40 ?_
  refine lv_iload_n hx hb dXM_become_43 rfl (lv_at hl 1 rfl) ?_
  obtain ⟨h9, h⟩ := h
  refine ma_3 hx hb hK hP h9 dXM_become_44 ?_
  obtain ⟨h11, h⟩ := h
  obtain ⟨I10, eI10⟩ : ∃ y, y = mi_up I7 9 (Int32.toNatClampNeg 2) (I7 2 (Int32.toNatClampNeg a1)) := ⟨_, rfl⟩
  replace h := h I10 eI10
  refine ms_16 hx hb hK hD hP hS h11 dXM_become_45 (fun H locs hP hS => ?_)
  rw [← eI10] at hP
  refine lv_aload_n hx hb dXM_become_46 rfl (lv_at hl 0 rfl) ?_
  refine mg_numbers hx hb hown hts hK hP dXM_become_47 ?_
  refine lv_iconst (v := 3) hx hb dXM_become_50 (by decide) ?_
  refine lv_aload_n hx hb dXM_become_51 rfl (lv_at hl 0 rfl) ?_
  refine mg_value hx hb hown hts hK hP dXM_become_52 ?_
  refine lv_iload_n hx hb dXM_become_55 rfl (lv_at hl 1 rfl) ?_
  obtain ⟨h12, h⟩ := h
  refine ma_4 hx hb hK hP h12 dXM_become_56 ?_
  obtain ⟨h14, h⟩ := h
  obtain ⟨I13, eI13⟩ : ∃ y, y = mi_up I10 9 (Int32.toNatClampNeg 3) (I10 3 (Int32.toNatClampNeg a1)) := ⟨_, rfl⟩
  replace h := h I13 eI13
  refine ms_16 hx hb hK hD hP hS h14 dXM_become_57 (fun H locs hP hS => ?_)
  rw [← eI13] at hP
  refine lv_aload_n hx hb dXM_become_58 rfl (lv_at hl 0 rfl) ?_
  refine mg_numbers hx hb hown hts hK hP dXM_become_59 ?_
  refine lv_iconst (v := 4) hx hb dXM_become_62 (by decide) ?_
  refine lv_aload_n hx hb dXM_become_63 rfl (lv_at hl 0 rfl) ?_
  refine mg_links hx hb hown hts hK hP dXM_become_64 ?_
  refine lv_iload_n hx hb dXM_become_67 rfl (lv_at hl 1 rfl) ?_
  obtain ⟨h15, h⟩ := h
  refine ma_5 hx hb hK hP h15 dXM_become_68 ?_
  obtain ⟨h17, h⟩ := h
  obtain ⟨I16, eI16⟩ : ∃ y, y = mi_up I13 9 (Int32.toNatClampNeg 4) (I13 4 (Int32.toNatClampNeg a1)) := ⟨_, rfl⟩
  replace h := h I16 eI16
  refine ms_16 hx hb hK hD hP hS h17 dXM_become_69 (fun H locs hP hS => ?_)
  rw [← eI16] at hP
  refine lv_iconst (v := 0) hx hb dXM_become_70 (by decide) ?_
  refine lv_istore_n (lv' := [(2, .int 0), (0, .ref h0), (1, .int a1)]) hx hb dXM_become_71 rfl hl (by decide) rfl (fun ls hl => ?_)
  obtain ⟨k, h⟩ := h
  exact sMbecome_72  C0  k I16 J cn x2 so a1 0 h H locs ls hP hS (lv_sub hl [1, 2, 0] rfl)
set_option maxRecDepth 100000 in
set_option maxHeartbeats 4000000 in
theorem cMbecome {l : Launch} {D : va_G} {A : Nat → Prop} {h0 : Nat} {ad : Nat → Nat} {cI cL : ClassId} (hD : mDs A h0 ad cI cL) {post : (Nat → Nat → Int32) → (Nat → Nat → Int64) → Int32 → Int64 → Int32 → Prop} {I : Nat → Nat → Int32} {J : Nat → Nat → Int64} {cn : Int32} {cm : Int64} {so : Int32} {a1 : Int32} (h : wMbecome post I J cn cm so a1) : Met l yXM_become (.code yXM_become cXM_become 3 none :: lg_tbl) ({ frames := 0, cells := 0, slots := 0, locals := 0 } : Room) (va_Pc [.ref h0, .int a1] (fxB (mW D h0 ad cI cL (I, J, cn, cm, so)) D vwCl (mTy cI cL))) (va_Qv (fun (u : mS) => post u.1 u.2.1 u.2.2.1 u.2.2.2.1 u.2.2.2.2) (fxC (mW D h0 ad cI cL)) A) 0 0 A := by
  refine fx_start (by decide +kernel) (Nat.le_of_ble_eq_true rfl) ?_
  intro p e s m below meth c ls hx hb hr hml hown hts hlocks hnm hB hl
  exact sMbecome_in ⟨hx, hb, hr, hml, hown, hts, hlocks, hB.2.1, hB.2.2, hD⟩ I J cn cm so a1 h _ _ ls hB.1 va_S.rf hl
noncomputable def wMinShape_66 (post : Int32 → (Nat → Nat → Int32) → (Nat → Nat → Int64) → Int32 → Int64 → Int32 → Prop) (n : Nat) : (Nat → Nat → Int32) → (Nat → Nat → Int64) → Int32 → Int64 → Int32 → Int32 → Int32 → Prop := Nat.rec (motive := fun _ => (Nat → Nat → Int32) → (Nat → Nat → Int64) → Int32 → Int64 → Int32 → Int32 → Int32 → Prop) (fun _ _ _ _ _ _ _ => False) (fun _ K66 I J cn cm so v1 v2 => (vp_in 4 5 ∧ (((I 9 (Int32.toNatClampNeg 4)) ≤ v2 → (narrow .boolean (.int v1) = .int v1 ∧ post v1 I J cn cm so)) ∧ (¬ (I 9 (Int32.toNatClampNeg 4)) ≤ v2 → ((v1 = 0 → (K66 I J cn cm so 0 (v2 + 1))) ∧ (¬ v1 = 0 → (vp_in (v2 - 1) 4 ∧ (vp_in v2 4 ∧ ((0 ≤ (lg_cmp (J 7 (Int32.toNatClampNeg (v2 - 1))) (J 7 (Int32.toNatClampNeg v2))) → (K66 I J cn cm so 0 (v2 + 1))) ∧ (¬ 0 ≤ (lg_cmp (J 7 (Int32.toNatClampNeg (v2 - 1))) (J 7 (Int32.toNatClampNeg v2))) → (K66 I J cn cm so 1 (v2 + 1)))))))))))) n
def wMinShape (post : Int32 → (Nat → Nat → Int32) → (Nat → Nat → Int64) → Int32 → Int64 → Int32 → Prop) (I : Nat → Nat → Int32) (J : Nat → Nat → Int64) (cn : Int32) (cm : Int64) (so : Int32) : Prop := (vp_in 0 5 ∧ (((I 9 (Int32.toNatClampNeg 0)) < 0 → (∃ k, wMinShape_66 post  k I J cn cm so 0 1)) ∧ (¬ (I 9 (Int32.toNatClampNeg 0)) < 0 → (vp_in 0 5 ∧ ((3 < (I 9 (Int32.toNatClampNeg 0)) → (∃ k, wMinShape_66 post  k I J cn cm so 0 1)) ∧ (¬ 3 < (I 9 (Int32.toNatClampNeg 0)) → (vp_in 1 5 ∧ (((I 9 (Int32.toNatClampNeg 1)) < 0 → (∃ k, wMinShape_66 post  k I J cn cm so 0 1)) ∧ (¬ (I 9 (Int32.toNatClampNeg 1)) < 0 → (vp_in 1 5 ∧ ((3 < (I 9 (Int32.toNatClampNeg 1)) → (∃ k, wMinShape_66 post  k I J cn cm so 0 1)) ∧ (¬ 3 < (I 9 (Int32.toNatClampNeg 1)) → (vp_in 2 5 ∧ (((I 9 (Int32.toNatClampNeg 2)) < 0 → (∃ k, wMinShape_66 post  k I J cn cm so 0 1)) ∧ (¬ (I 9 (Int32.toNatClampNeg 2)) < 0 → (vp_in 2 5 ∧ ((7 < (I 9 (Int32.toNatClampNeg 2)) → (∃ k, wMinShape_66 post  k I J cn cm so 0 1)) ∧ (¬ 7 < (I 9 (Int32.toNatClampNeg 2)) → (∃ k, wMinShape_66 post  k I J cn cm so 1 1)))))))))))))))))))
set_option maxRecDepth 100000 in
set_option maxHeartbeats 4000000 in
theorem sMinShape_66 {p : Program} {l : Launch} {e : Env} {s : State} {m : MethodId} {args : Array Value} {below : List Frame} {meth : Method} {c : Code} {D : va_G} {A : Nat → Prop} {h0 : Nat} {ad : Nat → Nat} {cI cL : ClassId} {post : Int32 → (Nat → Nat → Int32) → (Nat → Nat → Int64) → Int32 → Int64 → Int32 → Prop} (C0 : mCx p s m args meth c D A h0 ad cI cL cXM_inShape 3 (some .boolean)) : ∀ (n : Nat) (I : Nat → Nat → Int32) (J : Nat → Nat → Int64) (cn : Int32) (cm : Int64) (so : Int32) (v1 : Int32) (v2 : Int32), wMinShape_66 post  n I J cn cm so v1 v2 → ∀ (H : Heap) (locs : List Loc) (ls : Array Slot), mW D h0 ad cI cL (I, J, cn, cm, so) H → va_S A s.heap H locs → lv_has ls 3 [(0, .ref h0), (1, .int v1), (2, .int v2)] → W p l e ({ frames := 0, cells := 0, slots := 0, locals := 0 } : Room) s m args below meth c H locs 0 0 (MQ below (va_Qi (fun (r : Int32) (u : mS) => post r u.1 u.2.1 u.2.2.1 u.2.2.2.1 u.2.2.2.2) (fxC (mW D h0 ad cI cL)) A) args s 0 0 A) (F0 m 66 ls []) := by
  obtain ⟨hx, hb, hr, hml, hown, hts, hlocks, hK, hN, hD⟩ := id C0
  intro n
  induction n with
  | zero => exact fun _ _ _ _ _ _ _ h => h.elim
  | succ n hK66 =>
    intro I J cn cm so v1 v2 h H locs ls hP hS hl
    replace h : (vp_in 4 5 ∧ (((I 9 (Int32.toNatClampNeg 4)) ≤ v2 → (narrow .boolean (.int v1) = .int v1 ∧ post v1 I J cn cm so)) ∧ (¬ (I 9 (Int32.toNatClampNeg 4)) ≤ v2 → ((v1 = 0 → ((wMinShape_66 post  n) I J cn cm so 0 (v2 + 1))) ∧ (¬ v1 = 0 → (vp_in (v2 - 1) 4 ∧ (vp_in v2 4 ∧ ((0 ≤ (lg_cmp (J 7 (Int32.toNatClampNeg (v2 - 1))) (J 7 (Int32.toNatClampNeg v2))) → ((wMinShape_66 post  n) I J cn cm so 0 (v2 + 1))) ∧ (¬ 0 ≤ (lg_cmp (J 7 (Int32.toNatClampNeg (v2 - 1))) (J 7 (Int32.toNatClampNeg v2))) → ((wMinShape_66 post  n) I J cn cm so 1 (v2 + 1))))))))))) := h
    refine lv_iload_n hx hb dXM_inShape_66 rfl (lv_at hl 2 rfl) ?_
    refine lv_aload_n hx hb dXM_inShape_67 rfl (lv_at hl 0 rfl) ?_
    refine mg_numbers hx hb hown hts hK hP dXM_inShape_68 ?_
    refine lv_iconst (v := 4) hx hb dXM_inShape_71 (by decide) ?_
    obtain ⟨h13, h⟩ := h
    refine ma_16 hx hb hK hP h13 dXM_inShape_72 ?_
    refine lv_icmp_ge (tgt := 110) hx hb dXM_inShape_73 (by decide) (fun c14 => ?_) (fun c14 => ?_)
    · replace h := h.1 c14
      refine lv_iload_n hx hb dXM_inShape_110 rfl (lv_at hl 1 rfl) ?_
      obtain ⟨hz, h⟩ := h
      exact W.zret hx hb hr hz (fun t ht hW => ⟨⟨_, (I, J, cn, cm, so), rfl, h, by rw [fxC, ht]; exact hP⟩, hS.F ht⟩) hS.2.2 dXM_inShape_111 hlocks
    · replace h := h.2 c14
      refine lv_iload_n hx hb dXM_inShape_76 rfl (lv_at hl 1 rfl) ?_
      refine lv_if_eq (tgt := 102) hx hb dXM_inShape_77 (by decide) (fun c15 => ?_) (fun c15 => ?_)
      · replace h := h.1 c15
        refine lv_iconst (v := 0) hx hb dXM_inShape_102 (by decide) ?_
        refine lv_istore_n (lv' := [(1, .int 0), (0, .ref h0), (2, .int v2)]) hx hb dXM_inShape_103 rfl hl (by decide) rfl (fun ls hl => ?_)
        refine lv_iinc (v := v2 + 1) (lv' := [(2, .int (v2 + 1)), (1, .int 0), (0, .ref h0)]) hx hb dXM_inShape_104 hl (k := 2) rfl rfl (by decide) rfl (fun ls hl => ?_)
        refine lv_goto (tgt := 66) hx hb dXM_inShape_107 (by decide) ?_
        exact hK66 I J cn cm so 0 (v2 + 1) h H locs ls hP hS (lv_sub hl [2, 1, 0] rfl)
      · replace h := h.2 c15
        refine lv_aload_n hx hb dXM_inShape_80 rfl (lv_at hl 0 rfl) ?_
        refine mg_comingLink hx hb hown hts hK hP dXM_inShape_81 ?_
        refine lv_iload_n hx hb dXM_inShape_84 rfl (lv_at hl 2 rfl) ?_
        refine lv_iconst (v := 1) hx hb dXM_inShape_85 (by decide) ?_
        refine lv_isub hx hb dXM_inShape_86 ?_
        obtain ⟨h16, h⟩ := h
        refine ma_17 hx hb hK hP h16 dXM_inShape_87 ?_
        refine lv_aload_n hx hb dXM_inShape_88 rfl (lv_at hl 0 rfl) ?_
        refine mg_comingLink hx hb hown hts hK hP dXM_inShape_89 ?_
        refine lv_iload_n hx hb dXM_inShape_92 rfl (lv_at hl 2 rfl) ?_
        obtain ⟨h17, h⟩ := h
        refine ma_17 hx hb hK hP h17 dXM_inShape_93 ?_
        refine W.lcmp hx hb dXM_inShape_94 ?_
        refine lv_if_ge (tgt := 102) hx hb dXM_inShape_95 (by decide) (fun c18 => ?_) (fun c18 => ?_)
        · replace h := h.1 c18
          refine lv_iconst (v := 0) hx hb dXM_inShape_102 (by decide) ?_
          refine lv_istore_n (lv' := [(1, .int 0), (0, .ref h0), (2, .int v2)]) hx hb dXM_inShape_103 rfl hl (by decide) rfl (fun ls hl => ?_)
          refine lv_iinc (v := v2 + 1) (lv' := [(2, .int (v2 + 1)), (1, .int 0), (0, .ref h0)]) hx hb dXM_inShape_104 hl (k := 2) rfl rfl (by decide) rfl (fun ls hl => ?_)
          refine lv_goto (tgt := 66) hx hb dXM_inShape_107 (by decide) ?_
          exact hK66 I J cn cm so 0 (v2 + 1) h H locs ls hP hS (lv_sub hl [2, 1, 0] rfl)
        · replace h := h.2 c18
          refine lv_iconst (v := 1) hx hb dXM_inShape_98 (by decide) ?_
          refine lv_goto (tgt := 103) hx hb dXM_inShape_99 (by decide) ?_
          refine lv_istore_n (lv' := [(1, .int 1), (0, .ref h0), (2, .int v2)]) hx hb dXM_inShape_103 rfl hl (by decide) rfl (fun ls hl => ?_)
          refine lv_iinc (v := v2 + 1) (lv' := [(2, .int (v2 + 1)), (1, .int 1), (0, .ref h0)]) hx hb dXM_inShape_104 hl (k := 2) rfl rfl (by decide) rfl (fun ls hl => ?_)
          refine lv_goto (tgt := 66) hx hb dXM_inShape_107 (by decide) ?_
          exact hK66 I J cn cm so 1 (v2 + 1) h H locs ls hP hS (lv_sub hl [2, 1, 0] rfl)
set_option maxRecDepth 100000 in
set_option maxHeartbeats 4000000 in
theorem sMinShape_in {p : Program} {l : Launch} {e : Env} {s : State} {m : MethodId} {args : Array Value} {below : List Frame} {meth : Method} {c : Code} {D : va_G} {A : Nat → Prop} {h0 : Nat} {ad : Nat → Nat} {cI cL : ClassId} {post : Int32 → (Nat → Nat → Int32) → (Nat → Nat → Int64) → Int32 → Int64 → Int32 → Prop} (C0 : mCx p s m args meth c D A h0 ad cI cL cXM_inShape 3 (some .boolean)) : ∀ (I : Nat → Nat → Int32) (J : Nat → Nat → Int64) (cn : Int32) (cm : Int64) (so : Int32), wMinShape post I J cn cm so → ∀ (H : Heap) (locs : List Loc) (ls : Array Slot), mW D h0 ad cI cL (I, J, cn, cm, so) H → va_S A s.heap H locs → lv_has ls 3 [(0, .ref h0)] → W p l e ({ frames := 0, cells := 0, slots := 0, locals := 0 } : Room) s m args below meth c H locs 0 0 (MQ below (va_Qi (fun (r : Int32) (u : mS) => post r u.1 u.2.1 u.2.2.1 u.2.2.2.1 u.2.2.2.2) (fxC (mW D h0 ad cI cL)) A) args s 0 0 A) (F0 m 0 ls []) := by
  obtain ⟨hx, hb, hr, hml, hown, hts, hlocks, hK, hN, hD⟩ := id C0
  intro I J cn cm so h H locs ls hP hS hl
  replace h : (vp_in 0 5 ∧ (((I 9 (Int32.toNatClampNeg 0)) < 0 → (∃ k, wMinShape_66 post  k I J cn cm so 0 1)) ∧ (¬ (I 9 (Int32.toNatClampNeg 0)) < 0 → (vp_in 0 5 ∧ ((3 < (I 9 (Int32.toNatClampNeg 0)) → (∃ k, wMinShape_66 post  k I J cn cm so 0 1)) ∧ (¬ 3 < (I 9 (Int32.toNatClampNeg 0)) → (vp_in 1 5 ∧ (((I 9 (Int32.toNatClampNeg 1)) < 0 → (∃ k, wMinShape_66 post  k I J cn cm so 0 1)) ∧ (¬ (I 9 (Int32.toNatClampNeg 1)) < 0 → (vp_in 1 5 ∧ ((3 < (I 9 (Int32.toNatClampNeg 1)) → (∃ k, wMinShape_66 post  k I J cn cm so 0 1)) ∧ (¬ 3 < (I 9 (Int32.toNatClampNeg 1)) → (vp_in 2 5 ∧ (((I 9 (Int32.toNatClampNeg 2)) < 0 → (∃ k, wMinShape_66 post  k I J cn cm so 0 1)) ∧ (¬ (I 9 (Int32.toNatClampNeg 2)) < 0 → (vp_in 2 5 ∧ ((7 < (I 9 (Int32.toNatClampNeg 2)) → (∃ k, wMinShape_66 post  k I J cn cm so 0 1)) ∧ (¬ 7 < (I 9 (Int32.toNatClampNeg 2)) → (∃ k, wMinShape_66 post  k I J cn cm so 1 1))))))))))))))))))) := h
  refine lv_aload_n hx hb dXM_inShape_0 rfl (lv_at hl 0 rfl) ?_
  refine mg_numbers hx hb hown hts hK hP dXM_inShape_1 ?_
  refine lv_iconst (v := 0) hx hb dXM_inShape_4 (by decide) ?_
  obtain ⟨h1, h⟩ := h
  refine ma_16 hx hb hK hP h1 dXM_inShape_5 ?_
  refine lv_if_lt (tgt := 62) hx hb dXM_inShape_6 (by decide) (fun c2 => ?_) (fun c2 => ?_)
  · replace h := h.1 c2
    refine lv_iconst (v := 0) hx hb dXM_inShape_62 (by decide) ?_
    refine lv_istore_n (lv' := [(1, .int 0), (0, .ref h0)]) hx hb dXM_inShape_63 rfl hl (by decide) rfl (fun ls hl => ?_)
    refine lv_iconst (v := 1) hx hb dXM_inShape_64 (by decide) ?_
    refine lv_istore_n (lv' := [(2, .int 1), (1, .int 0), (0, .ref h0)]) hx hb dXM_inShape_65 rfl hl (by decide) rfl (fun ls hl => ?_)
    obtain ⟨k, h⟩ := h
    exact sMinShape_66  C0  k I J cn cm so 0 1 h H locs ls hP hS (lv_sub hl [2, 1, 0] rfl)
  · replace h := h.2 c2
    refine lv_aload_n hx hb dXM_inShape_9 rfl (lv_at hl 0 rfl) ?_
    refine mg_numbers hx hb hown hts hK hP dXM_inShape_10 ?_
    refine lv_iconst (v := 0) hx hb dXM_inShape_13 (by decide) ?_
    obtain ⟨h3, h⟩ := h
    refine ma_16 hx hb hK hP h3 dXM_inShape_14 ?_
    refine lv_iconst (v := 3) hx hb dXM_inShape_15 (by decide) ?_
    refine lv_icmp_gt (tgt := 62) hx hb dXM_inShape_16 (by decide) (fun c4 => ?_) (fun c4 => ?_)
    · replace h := h.1 c4
      refine lv_iconst (v := 0) hx hb dXM_inShape_62 (by decide) ?_
      refine lv_istore_n (lv' := [(1, .int 0), (0, .ref h0)]) hx hb dXM_inShape_63 rfl hl (by decide) rfl (fun ls hl => ?_)
      refine lv_iconst (v := 1) hx hb dXM_inShape_64 (by decide) ?_
      refine lv_istore_n (lv' := [(2, .int 1), (1, .int 0), (0, .ref h0)]) hx hb dXM_inShape_65 rfl hl (by decide) rfl (fun ls hl => ?_)
      obtain ⟨k, h⟩ := h
      exact sMinShape_66  C0  k I J cn cm so 0 1 h H locs ls hP hS (lv_sub hl [2, 1, 0] rfl)
    · replace h := h.2 c4
      refine lv_aload_n hx hb dXM_inShape_19 rfl (lv_at hl 0 rfl) ?_
      refine mg_numbers hx hb hown hts hK hP dXM_inShape_20 ?_
      refine lv_iconst (v := 1) hx hb dXM_inShape_23 (by decide) ?_
      obtain ⟨h5, h⟩ := h
      refine ma_16 hx hb hK hP h5 dXM_inShape_24 ?_
      refine lv_if_lt (tgt := 62) hx hb dXM_inShape_25 (by decide) (fun c6 => ?_) (fun c6 => ?_)
      · replace h := h.1 c6
        refine lv_iconst (v := 0) hx hb dXM_inShape_62 (by decide) ?_
        refine lv_istore_n (lv' := [(1, .int 0), (0, .ref h0)]) hx hb dXM_inShape_63 rfl hl (by decide) rfl (fun ls hl => ?_)
        refine lv_iconst (v := 1) hx hb dXM_inShape_64 (by decide) ?_
        refine lv_istore_n (lv' := [(2, .int 1), (1, .int 0), (0, .ref h0)]) hx hb dXM_inShape_65 rfl hl (by decide) rfl (fun ls hl => ?_)
        obtain ⟨k, h⟩ := h
        exact sMinShape_66  C0  k I J cn cm so 0 1 h H locs ls hP hS (lv_sub hl [2, 1, 0] rfl)
      · replace h := h.2 c6
        refine lv_aload_n hx hb dXM_inShape_28 rfl (lv_at hl 0 rfl) ?_
        refine mg_numbers hx hb hown hts hK hP dXM_inShape_29 ?_
        refine lv_iconst (v := 1) hx hb dXM_inShape_32 (by decide) ?_
        obtain ⟨h7, h⟩ := h
        refine ma_16 hx hb hK hP h7 dXM_inShape_33 ?_
        refine lv_iconst (v := 3) hx hb dXM_inShape_34 (by decide) ?_
        refine lv_icmp_gt (tgt := 62) hx hb dXM_inShape_35 (by decide) (fun c8 => ?_) (fun c8 => ?_)
        · replace h := h.1 c8
          refine lv_iconst (v := 0) hx hb dXM_inShape_62 (by decide) ?_
          refine lv_istore_n (lv' := [(1, .int 0), (0, .ref h0)]) hx hb dXM_inShape_63 rfl hl (by decide) rfl (fun ls hl => ?_)
          refine lv_iconst (v := 1) hx hb dXM_inShape_64 (by decide) ?_
          refine lv_istore_n (lv' := [(2, .int 1), (1, .int 0), (0, .ref h0)]) hx hb dXM_inShape_65 rfl hl (by decide) rfl (fun ls hl => ?_)
          obtain ⟨k, h⟩ := h
          exact sMinShape_66  C0  k I J cn cm so 0 1 h H locs ls hP hS (lv_sub hl [2, 1, 0] rfl)
        · replace h := h.2 c8
          refine lv_aload_n hx hb dXM_inShape_38 rfl (lv_at hl 0 rfl) ?_
          refine mg_numbers hx hb hown hts hK hP dXM_inShape_39 ?_
          refine lv_iconst (v := 2) hx hb dXM_inShape_42 (by decide) ?_
          obtain ⟨h9, h⟩ := h
          refine ma_16 hx hb hK hP h9 dXM_inShape_43 ?_
          refine lv_if_lt (tgt := 62) hx hb dXM_inShape_44 (by decide) (fun c10 => ?_) (fun c10 => ?_)
          · replace h := h.1 c10
            refine lv_iconst (v := 0) hx hb dXM_inShape_62 (by decide) ?_
            refine lv_istore_n (lv' := [(1, .int 0), (0, .ref h0)]) hx hb dXM_inShape_63 rfl hl (by decide) rfl (fun ls hl => ?_)
            refine lv_iconst (v := 1) hx hb dXM_inShape_64 (by decide) ?_
            refine lv_istore_n (lv' := [(2, .int 1), (1, .int 0), (0, .ref h0)]) hx hb dXM_inShape_65 rfl hl (by decide) rfl (fun ls hl => ?_)
            obtain ⟨k, h⟩ := h
            exact sMinShape_66  C0  k I J cn cm so 0 1 h H locs ls hP hS (lv_sub hl [2, 1, 0] rfl)
          · replace h := h.2 c10
            refine lv_aload_n hx hb dXM_inShape_47 rfl (lv_at hl 0 rfl) ?_
            refine mg_numbers hx hb hown hts hK hP dXM_inShape_48 ?_
            refine lv_iconst (v := 2) hx hb dXM_inShape_51 (by decide) ?_
            obtain ⟨h11, h⟩ := h
            refine ma_16 hx hb hK hP h11 dXM_inShape_52 ?_
            refine lv_bipush (v := 7) hx hb dXM_inShape_53 (by decide) ?_
            refine lv_icmp_gt (tgt := 62) hx hb dXM_inShape_55 (by decide) (fun c12 => ?_) (fun c12 => ?_)
            · replace h := h.1 c12
              refine lv_iconst (v := 0) hx hb dXM_inShape_62 (by decide) ?_
              refine lv_istore_n (lv' := [(1, .int 0), (0, .ref h0)]) hx hb dXM_inShape_63 rfl hl (by decide) rfl (fun ls hl => ?_)
              refine lv_iconst (v := 1) hx hb dXM_inShape_64 (by decide) ?_
              refine lv_istore_n (lv' := [(2, .int 1), (1, .int 0), (0, .ref h0)]) hx hb dXM_inShape_65 rfl hl (by decide) rfl (fun ls hl => ?_)
              obtain ⟨k, h⟩ := h
              exact sMinShape_66  C0  k I J cn cm so 0 1 h H locs ls hP hS (lv_sub hl [2, 1, 0] rfl)
            · replace h := h.2 c12
              refine lv_iconst (v := 1) hx hb dXM_inShape_58 (by decide) ?_
              refine lv_goto (tgt := 63) hx hb dXM_inShape_59 (by decide) ?_
              refine lv_istore_n (lv' := [(1, .int 1), (0, .ref h0)]) hx hb dXM_inShape_63 rfl hl (by decide) rfl (fun ls hl => ?_)
              refine lv_iconst (v := 1) hx hb dXM_inShape_64 (by decide) ?_
              refine lv_istore_n (lv' := [(2, .int 1), (1, .int 1), (0, .ref h0)]) hx hb dXM_inShape_65 rfl hl (by decide) rfl (fun ls hl => ?_)
              obtain ⟨k, h⟩ := h
              exact sMinShape_66  C0  k I J cn cm so 1 1 h H locs ls hP hS (lv_sub hl [2, 1, 0] rfl)
set_option maxRecDepth 100000 in
set_option maxHeartbeats 4000000 in
theorem cMinShape {l : Launch} {D : va_G} {A : Nat → Prop} {h0 : Nat} {ad : Nat → Nat} {cI cL : ClassId} (hD : mDs A h0 ad cI cL) {post : Int32 → (Nat → Nat → Int32) → (Nat → Nat → Int64) → Int32 → Int64 → Int32 → Prop} {I : Nat → Nat → Int32} {J : Nat → Nat → Int64} {cn : Int32} {cm : Int64} {so : Int32} (h : wMinShape post I J cn cm so) : Met l yXM_inShape (.code yXM_inShape cXM_inShape 3 (some .boolean) :: lg_tbl) ({ frames := 0, cells := 0, slots := 0, locals := 0 } : Room) (va_Pc [.ref h0] (fxB (mW D h0 ad cI cL (I, J, cn, cm, so)) D vwCl (mTy cI cL))) (va_Qi (fun (r : Int32) (u : mS) => post r u.1 u.2.1 u.2.2.1 u.2.2.2.1 u.2.2.2.2) (fxC (mW D h0 ad cI cL)) A) 0 0 A := by
  refine fx_start (by decide +kernel) (Nat.le_of_ble_eq_true rfl) ?_
  intro p e s m below meth c ls hx hb hr hml hown hts hlocks hnm hB hl
  exact sMinShape_in ⟨hx, hb, hr, hml, hown, hts, hlocks, hB.2.1, hB.2.2, hD⟩ I J cn cm so h _ _ ls hB.1 va_S.rf hl
end
section
noncomputable def wMlinksHeld_4 (post : Int32 → (Nat → Nat → Int32) → (Nat → Nat → Int64) → Int32 → Int64 → Int32 → Prop) (n : Nat) : (Nat → Nat → Int32) → (Nat → Nat → Int64) → Int32 → Int64 → Int32 → Int32 → Int32 → Int32 → Prop := Nat.rec (motive := fun _ => (Nat → Nat → Int32) → (Nat → Nat → Int64) → Int32 → Int64 → Int32 → Int32 → Int32 → Int32 → Prop) (fun _ _ _ _ _ _ _ _ => False) (fun _ K4 I J cn cm so v1 v2 v3 => (vp_in 4 5 ∧ (((I 9 (Int32.toNatClampNeg 4)) ≤ v3 → (narrow .boolean (.int v2) = .int v2 ∧ post v2 I J cn cm so)) ∧ (¬ (I 9 (Int32.toNatClampNeg 4)) ≤ v3 → ((v2 = 0 → (K4 I J cn cm so v1 0 (v3 + 1))) ∧ (¬ v2 = 0 → (vp_in v1 4 ∧ (vp_in v3 4 ∧ (wMfind (fun r6 I_6 J_6 cn_6 cm_6 so_6 => (wMin (fun r7 I_7 J_7 cn_7 cm_7 so_7 => ((r7 = 0 → (K4 I_7 J_7 cn_7 cm_7 so_7 v1 0 (v3 + 1))) ∧ (¬ r7 = 0 → (K4 I_7 J_7 cn_7 cm_7 so_7 v1 1 (v3 + 1))))) I_6 J_6 cn_6 cm_6 so_6 (J 3 (Int32.toNatClampNeg v1)) r6)) I J cn cm so (J 7 (Int32.toNatClampNeg v3))))))))))) n
def wMlinksHeld (post : Int32 → (Nat → Nat → Int32) → (Nat → Nat → Int64) → Int32 → Int64 → Int32 → Prop) (I : Nat → Nat → Int32) (J : Nat → Nat → Int64) (cn : Int32) (cm : Int64) (so : Int32) (a1 : Int32) : Prop := (∃ k, wMlinksHeld_4 post  k I J cn cm so a1 1 0)
set_option maxRecDepth 100000 in
set_option maxHeartbeats 4000000 in
theorem sMlinksHeld_4 {p : Program} {l : Launch} {e : Env} {s : State} {m : MethodId} {args : Array Value} {below : List Frame} {meth : Method} {c : Code} {D : va_G} {A : Nat → Prop} {h0 : Nat} {ad : Nat → Nat} {cI cL : ClassId} {post : Int32 → (Nat → Nat → Int32) → (Nat → Nat → Int64) → Int32 → Int64 → Int32 → Prop} (C0 : mCx p s m args meth c D A h0 ad cI cL cXM_linksHeld 4 (some .boolean)) : ∀ (n : Nat) (I : Nat → Nat → Int32) (J : Nat → Nat → Int64) (cn : Int32) (cm : Int64) (so : Int32) (v1 : Int32) (v2 : Int32) (v3 : Int32), wMlinksHeld_4 post  n I J cn cm so v1 v2 v3 → ∀ (H : Heap) (locs : List Loc) (ls : Array Slot), mW D h0 ad cI cL (I, J, cn, cm, so) H → va_S A s.heap H locs → lv_has ls 4 [(0, .ref h0), (1, .int v1), (2, .int v2), (3, .int v3)] → W p l e ({ frames := 1, cells := 0, slots := 0, locals := 24 } : Room) s m args below meth c H locs 0 0 (MQ below (va_Qi (fun (r : Int32) (u : mS) => post r u.1 u.2.1 u.2.2.1 u.2.2.2.1 u.2.2.2.2) (fxC (mW D h0 ad cI cL)) A) args s 0 0 A) (F0 m 4 ls []) := by
  obtain ⟨hx, hb, hr, hml, hown, hts, hlocks, hK, hN, hD⟩ := id C0
  intro n
  induction n with
  | zero => exact fun _ _ _ _ _ _ _ _ h => h.elim
  | succ n hK4 =>
    intro I J cn cm so v1 v2 v3 h H locs ls hP hS hl
    replace h : (vp_in 4 5 ∧ (((I 9 (Int32.toNatClampNeg 4)) ≤ v3 → (narrow .boolean (.int v2) = .int v2 ∧ post v2 I J cn cm so)) ∧ (¬ (I 9 (Int32.toNatClampNeg 4)) ≤ v3 → ((v2 = 0 → ((wMlinksHeld_4 post  n) I J cn cm so v1 0 (v3 + 1))) ∧ (¬ v2 = 0 → (vp_in v1 4 ∧ (vp_in v3 4 ∧ (wMfind (fun r6 I_6 J_6 cn_6 cm_6 so_6 => (wMin (fun r7 I_7 J_7 cn_7 cm_7 so_7 => ((r7 = 0 → ((wMlinksHeld_4 post  n) I_7 J_7 cn_7 cm_7 so_7 v1 0 (v3 + 1))) ∧ (¬ r7 = 0 → ((wMlinksHeld_4 post  n) I_7 J_7 cn_7 cm_7 so_7 v1 1 (v3 + 1))))) I_6 J_6 cn_6 cm_6 so_6 (J 3 (Int32.toNatClampNeg v1)) r6)) I J cn cm so (J 7 (Int32.toNatClampNeg v3)))))))))) := h
    refine lv_iload_n hx hb dXM_linksHeld_4 rfl (lv_at hl 3 rfl) ?_
    refine lv_aload_n hx hb dXM_linksHeld_5 rfl (lv_at hl 0 rfl) ?_
    refine mg_numbers hx hb hown hts hK hP dXM_linksHeld_6 ?_
    refine lv_iconst (v := 4) hx hb dXM_linksHeld_9 (by decide) ?_
    obtain ⟨h1, h⟩ := h
    refine ma_16 hx hb hK hP h1 dXM_linksHeld_10 ?_
    refine lv_icmp_ge (tgt := 52) hx hb dXM_linksHeld_11 (by decide) (fun c2 => ?_) (fun c2 => ?_)
    · replace h := h.1 c2
      refine lv_iload_n hx hb dXM_linksHeld_52 rfl (lv_at hl 2 rfl) ?_
      obtain ⟨hz, h⟩ := h
      exact W.zret hx hb hr hz (fun t ht hW => ⟨⟨_, (I, J, cn, cm, so), rfl, h, by rw [fxC, ht]; exact hP⟩, hS.F ht⟩) hS.2.2 dXM_linksHeld_53 hlocks
    · replace h := h.2 c2
      refine lv_iload_n hx hb dXM_linksHeld_14 rfl (lv_at hl 2 rfl) ?_
      refine lv_if_eq (tgt := 44) hx hb dXM_linksHeld_15 (by decide) (fun c3 => ?_) (fun c3 => ?_)
      · replace h := h.1 c3
        refine lv_iconst (v := 0) hx hb dXM_linksHeld_44 (by decide) ?_
        refine lv_istore_n (lv' := [(2, .int 0), (0, .ref h0), (1, .int v1), (3, .int v3)]) hx hb dXM_linksHeld_45 rfl hl (by decide) rfl (fun ls hl => ?_)
        refine lv_iinc (v := v3 + 1) (lv' := [(3, .int (v3 + 1)), (2, .int 0), (0, .ref h0), (1, .int v1)]) hx hb dXM_linksHeld_46 hl (k := 3) rfl rfl (by decide) rfl (fun ls hl => ?_)
        refine lv_goto (tgt := 4) hx hb dXM_linksHeld_49 (by decide) ?_
        exact hK4 I J cn cm so v1 0 (v3 + 1) h H locs ls hP hS (lv_sub hl [2, 3, 1, 0] rfl)
      · replace h := h.2 c3
        refine lv_aload_n hx hb dXM_linksHeld_18 rfl (lv_at hl 0 rfl) ?_
        refine mg_holds hx hb hown hts hK hP dXM_linksHeld_19 ?_
        refine lv_iload_n hx hb dXM_linksHeld_22 rfl (lv_at hl 1 rfl) ?_
        obtain ⟨h4, h⟩ := h
        refine ma_9 hx hb hK hP h4 dXM_linksHeld_23 ?_
        refine lv_aload_n hx hb dXM_linksHeld_24 rfl (lv_at hl 0 rfl) ?_
        refine lv_aload_n hx hb dXM_linksHeld_25 rfl (lv_at hl 0 rfl) ?_
        refine mg_comingLink hx hb hown hts hK hP dXM_linksHeld_26 ?_
        refine lv_iload_n hx hb dXM_linksHeld_29 rfl (lv_at hl 3 rfl) ?_
        obtain ⟨h5, h⟩ := h
        refine ma_17 hx hb hK hP h5 dXM_linksHeld_30 ?_
        refine va_calli (va_runV (As := [.long (J 7 (Int32.toNatClampNeg v3))]) (rest := [.long (J 3 (Int32.toNatClampNeg v1))]) ⟨hx, hb, hml, hown, hts⟩ (cMfind hD h) (fx_cwV 1 hts gw_M_84 hdXM_find ⟨Nat.le_of_ble_eq_true rfl, Nat.le_of_ble_eq_true rfl⟩) (fx_preV (m_recv hK hP) hP hK hN) rfl rfl hl.1 rfl (lv_room (Nat.le_of_ble_eq_true rfl)) dXM_linksHeld_31 ⟨Nat.le_of_ble_eq_true rfl, Nat.le_of_ble_eq_true rfl⟩) hS (fun _ _ q => q) (fun _ q => q) (fun r6 u t H locs ht hvm h hP hz hk hS => ?_)
        rw [fxC, ht] at hP
        obtain ⟨I_6, J_6, cn_6, cm_6, so_6⟩ := u
        dsimp only at h
        refine va_calli (va_runS (As := [.long (J 3 (Int32.toNatClampNeg v1)), .int r6]) (rest := []) ⟨hx, hb, hml, hown, hts⟩ (cMin hD h) (fx_cwS 2 hts gw_M_88 hdXM_in ⟨Nat.le_of_ble_eq_true rfl, Nat.le_of_ble_eq_true rfl⟩) (fx_preS hP hK hN) rfl rfl hl.1 rfl (lv_room (Nat.le_of_ble_eq_true rfl)) dXM_linksHeld_34 ⟨Nat.le_of_ble_eq_true rfl, Nat.le_of_ble_eq_true rfl⟩) hS (fun _ _ q => q) (fun _ q => q) (fun r7 u t H locs ht hvm h hP hz hk hS => ?_)
        rw [fxC, ht] at hP
        obtain ⟨I_7, J_7, cn_7, cm_7, so_7⟩ := u
        dsimp only at h
        refine lv_if_eq (tgt := 44) hx hb dXM_linksHeld_37 (by decide) (fun c8 => ?_) (fun c8 => ?_)
        · replace h := h.1 c8
          refine lv_iconst (v := 0) hx hb dXM_linksHeld_44 (by decide) ?_
          refine lv_istore_n (lv' := [(2, .int 0), (0, .ref h0), (1, .int v1), (3, .int v3)]) hx hb dXM_linksHeld_45 rfl hl (by decide) rfl (fun ls hl => ?_)
          refine lv_iinc (v := v3 + 1) (lv' := [(3, .int (v3 + 1)), (2, .int 0), (0, .ref h0), (1, .int v1)]) hx hb dXM_linksHeld_46 hl (k := 3) rfl rfl (by decide) rfl (fun ls hl => ?_)
          refine lv_goto (tgt := 4) hx hb dXM_linksHeld_49 (by decide) ?_
          exact hK4 I_7 J_7 cn_7 cm_7 so_7 v1 0 (v3 + 1) h H locs ls hP hS (lv_sub hl [2, 3, 1, 0] rfl)
        · replace h := h.2 c8
          refine lv_iconst (v := 1) hx hb dXM_linksHeld_40 (by decide) ?_
          refine lv_goto (tgt := 45) hx hb dXM_linksHeld_41 (by decide) ?_
          refine lv_istore_n (lv' := [(2, .int 1), (0, .ref h0), (1, .int v1), (3, .int v3)]) hx hb dXM_linksHeld_45 rfl hl (by decide) rfl (fun ls hl => ?_)
          refine lv_iinc (v := v3 + 1) (lv' := [(3, .int (v3 + 1)), (2, .int 1), (0, .ref h0), (1, .int v1)]) hx hb dXM_linksHeld_46 hl (k := 3) rfl rfl (by decide) rfl (fun ls hl => ?_)
          refine lv_goto (tgt := 4) hx hb dXM_linksHeld_49 (by decide) ?_
          exact hK4 I_7 J_7 cn_7 cm_7 so_7 v1 1 (v3 + 1) h H locs ls hP hS (lv_sub hl [2, 3, 1, 0] rfl)
set_option maxRecDepth 100000 in
set_option maxHeartbeats 4000000 in
theorem sMlinksHeld_in {p : Program} {l : Launch} {e : Env} {s : State} {m : MethodId} {args : Array Value} {below : List Frame} {meth : Method} {c : Code} {D : va_G} {A : Nat → Prop} {h0 : Nat} {ad : Nat → Nat} {cI cL : ClassId} {post : Int32 → (Nat → Nat → Int32) → (Nat → Nat → Int64) → Int32 → Int64 → Int32 → Prop} (C0 : mCx p s m args meth c D A h0 ad cI cL cXM_linksHeld 4 (some .boolean)) : ∀ (I : Nat → Nat → Int32) (J : Nat → Nat → Int64) (cn : Int32) (cm : Int64) (so : Int32) (a1 : Int32), wMlinksHeld post I J cn cm so a1 → ∀ (H : Heap) (locs : List Loc) (ls : Array Slot), mW D h0 ad cI cL (I, J, cn, cm, so) H → va_S A s.heap H locs → lv_has ls 4 [(0, .ref h0), (1, .int a1)] → W p l e ({ frames := 1, cells := 0, slots := 0, locals := 24 } : Room) s m args below meth c H locs 0 0 (MQ below (va_Qi (fun (r : Int32) (u : mS) => post r u.1 u.2.1 u.2.2.1 u.2.2.2.1 u.2.2.2.2) (fxC (mW D h0 ad cI cL)) A) args s 0 0 A) (F0 m 0 ls []) := by
  obtain ⟨hx, hb, hr, hml, hown, hts, hlocks, hK, hN, hD⟩ := id C0
  intro I J cn cm so a1 h H locs ls hP hS hl
  replace h : (∃ k, wMlinksHeld_4 post  k I J cn cm so a1 1 0) := h
  refine lv_iconst (v := 1) hx hb dXM_linksHeld_0 (by decide) ?_
  refine lv_istore_n (lv' := [(2, .int 1), (0, .ref h0), (1, .int a1)]) hx hb dXM_linksHeld_1 rfl hl (by decide) rfl (fun ls hl => ?_)
  refine lv_iconst (v := 0) hx hb dXM_linksHeld_2 (by decide) ?_
  refine lv_istore_n (lv' := [(3, .int 0), (2, .int 1), (0, .ref h0), (1, .int a1)]) hx hb dXM_linksHeld_3 rfl hl (by decide) rfl (fun ls hl => ?_)
  obtain ⟨k, h⟩ := h
  exact sMlinksHeld_4  C0  k I J cn cm so a1 1 0 h H locs ls hP hS (lv_sub hl [2, 3, 1, 0] rfl)
set_option maxRecDepth 100000 in
set_option maxHeartbeats 4000000 in
theorem cMlinksHeld {l : Launch} {D : va_G} {A : Nat → Prop} {h0 : Nat} {ad : Nat → Nat} {cI cL : ClassId} (hD : mDs A h0 ad cI cL) {post : Int32 → (Nat → Nat → Int32) → (Nat → Nat → Int64) → Int32 → Int64 → Int32 → Prop} {I : Nat → Nat → Int32} {J : Nat → Nat → Int64} {cn : Int32} {cm : Int64} {so : Int32} {a1 : Int32} (h : wMlinksHeld post I J cn cm so a1) : Met l yXM_linksHeld (.code yXM_linksHeld cXM_linksHeld 4 (some .boolean) :: lg_tbl) ({ frames := 1, cells := 0, slots := 0, locals := 24 } : Room) (va_Pc [.ref h0, .int a1] (fxB (mW D h0 ad cI cL (I, J, cn, cm, so)) D vwCl (mTy cI cL))) (va_Qi (fun (r : Int32) (u : mS) => post r u.1 u.2.1 u.2.2.1 u.2.2.2.1 u.2.2.2.2) (fxC (mW D h0 ad cI cL)) A) 0 0 A := by
  refine fx_start (by decide +kernel) (Nat.le_of_ble_eq_true rfl) ?_
  intro p e s m below meth c ls hx hb hr hml hown hts hlocks hnm hB hl
  exact sMlinksHeld_in ⟨hx, hb, hr, hml, hown, hts, hlocks, hB.2.1, hB.2.2, hD⟩ I J cn cm so a1 h _ _ ls hB.1 va_S.rf hl
noncomputable def wMpastOf_4 (post : Int64 → (Nat → Nat → Int32) → (Nat → Nat → Int64) → Int32 → Int64 → Int32 → Prop) (n : Nat) : (Nat → Nat → Int32) → (Nat → Nat → Int64) → Int32 → Int64 → Int32 → Int64 → Int32 → Prop := Nat.rec (motive := fun _ => (Nat → Nat → Int32) → (Nat → Nat → Int64) → Int32 → Int64 → Int32 → Int64 → Int32 → Prop) (fun _ _ _ _ _ _ _ => False) (fun _ K4 I J cn cm so v1 v3 => (vp_in 4 5 ∧ (((I 9 (Int32.toNatClampNeg 4)) ≤ v3 → (post v1 I J cn cm so)) ∧ (¬ (I 9 (Int32.toNatClampNeg 4)) ≤ v3 → (vp_in v3 4 ∧ (wMfind (fun r4 I_4 J_4 cn_4 cm_4 so_4 => (vp_in r4 40 ∧ ∀ x6, x6 = (v1 ||| (J_4 2 (Int32.toNatClampNeg r4))) ||| (hj_shl 1 r4) → (K4 I_4 J_4 cn_4 cm_4 so_4 x6 (v3 + 1)))) I J cn cm so (J 7 (Int32.toNatClampNeg v3)))))))) n
def wMpastOf (post : Int64 → (Nat → Nat → Int32) → (Nat → Nat → Int64) → Int32 → Int64 → Int32 → Prop) (I : Nat → Nat → Int32) (J : Nat → Nat → Int64) (cn : Int32) (cm : Int64) (so : Int32) : Prop := (∃ k, wMpastOf_4 post  k I J cn cm so 0 0)
set_option maxRecDepth 100000 in
set_option maxHeartbeats 4000000 in
theorem sMpastOf_4 {p : Program} {l : Launch} {e : Env} {s : State} {m : MethodId} {args : Array Value} {below : List Frame} {meth : Method} {c : Code} {D : va_G} {A : Nat → Prop} {h0 : Nat} {ad : Nat → Nat} {cI cL : ClassId} {post : Int64 → (Nat → Nat → Int32) → (Nat → Nat → Int64) → Int32 → Int64 → Int32 → Prop} (C0 : mCx p s m args meth c D A h0 ad cI cL cXM_pastOf 5 (some .long)) : ∀ (n : Nat) (I : Nat → Nat → Int32) (J : Nat → Nat → Int64) (cn : Int32) (cm : Int64) (so : Int32) (v1 : Int64) (v3 : Int32), wMpastOf_4 post  n I J cn cm so v1 v3 → ∀ (H : Heap) (locs : List Loc) (ls : Array Slot), mW D h0 ad cI cL (I, J, cn, cm, so) H → va_S A s.heap H locs → lv_has ls 5 [(0, .ref h0), (1, .long v1), (3, .int v3)] → W p l e ({ frames := 1, cells := 0, slots := 0, locals := 24 } : Room) s m args below meth c H locs 0 0 (MQ below (va_Ql (fun (r : Int64) (u : mS) => post r u.1 u.2.1 u.2.2.1 u.2.2.2.1 u.2.2.2.2) (fxC (mW D h0 ad cI cL)) A) args s 0 0 A) (F0 m 4 ls []) := by
  obtain ⟨hx, hb, hr, hml, hown, hts, hlocks, hK, hN, hD⟩ := id C0
  intro n
  induction n with
  | zero => exact fun _ _ _ _ _ _ _ h => h.elim
  | succ n hK4 =>
    intro I J cn cm so v1 v3 h H locs ls hP hS hl
    replace h : (vp_in 4 5 ∧ (((I 9 (Int32.toNatClampNeg 4)) ≤ v3 → (post v1 I J cn cm so)) ∧ (¬ (I 9 (Int32.toNatClampNeg 4)) ≤ v3 → (vp_in v3 4 ∧ (wMfind (fun r4 I_4 J_4 cn_4 cm_4 so_4 => (vp_in r4 40 ∧ ∀ x6, x6 = (v1 ||| (J_4 2 (Int32.toNatClampNeg r4))) ||| (hj_shl 1 r4) → ((wMpastOf_4 post  n) I_4 J_4 cn_4 cm_4 so_4 x6 (v3 + 1)))) I J cn cm so (J 7 (Int32.toNatClampNeg v3))))))) := h
    refine lv_iload_n hx hb dXM_pastOf_4 rfl (lv_at hl 2 rfl) ?_
    refine lv_aload_n hx hb dXM_pastOf_5 rfl (lv_at hl 0 rfl) ?_
    refine mg_numbers hx hb hown hts hK hP dXM_pastOf_6 ?_
    refine lv_iconst (v := 4) hx hb dXM_pastOf_9 (by decide) ?_
    obtain ⟨h1, h⟩ := h
    refine ma_16 hx hb hK hP h1 dXM_pastOf_10 ?_
    refine lv_icmp_ge (tgt := 47) hx hb dXM_pastOf_11 (by decide) (fun c2 => ?_) (fun c2 => ?_)
    · replace h := h.1 c2
      refine lv_lload_n hx hb dXM_pastOf_47 rfl (lv_at hl 1 rfl) ?_
      exact W.lret hx hb hr (fun t ht hW => ⟨⟨_, (I, J, cn, cm, so), rfl, h, by rw [fxC, ht]; exact hP⟩, hS.F ht⟩) hS.2.2 dXM_pastOf_48 hlocks
    · replace h := h.2 c2
      refine lv_aload_n hx hb dXM_pastOf_14 rfl (lv_at hl 0 rfl) ?_
      refine lv_aload_n hx hb dXM_pastOf_15 rfl (lv_at hl 0 rfl) ?_
      refine mg_comingLink hx hb hown hts hK hP dXM_pastOf_16 ?_
      refine lv_iload_n hx hb dXM_pastOf_19 rfl (lv_at hl 2 rfl) ?_
      obtain ⟨h3, h⟩ := h
      refine ma_17 hx hb hK hP h3 dXM_pastOf_20 ?_
      refine va_calli (va_runV (As := [.long (J 7 (Int32.toNatClampNeg v3))]) (rest := []) ⟨hx, hb, hml, hown, hts⟩ (cMfind hD h) (fx_cwV 1 hts gw_M_84 hdXM_find ⟨Nat.le_of_ble_eq_true rfl, Nat.le_of_ble_eq_true rfl⟩) (fx_preV (m_recv hK hP) hP hK hN) rfl rfl hl.1 rfl (lv_room (Nat.le_of_ble_eq_true rfl)) dXM_pastOf_21 ⟨Nat.le_of_ble_eq_true rfl, Nat.le_of_ble_eq_true rfl⟩) hS (fun _ _ q => q) (fun _ q => q) (fun r4 u t H locs ht hvm h hP hz hk hS => ?_)
      rw [fxC, ht] at hP
      obtain ⟨I_4, J_4, cn_4, cm_4, so_4⟩ := u
      dsimp only at h
      refine lv_istore (lv' := [(4, .int r4), (0, .ref h0), (1, .long v1), (3, .int v3)]) hx hb dXM_pastOf_24 hl (by decide) rfl (fun ls hl => ?_)
      refine lv_lload_n hx hb dXM_pastOf_26 rfl (lv_at hl 2 rfl) ?_
      refine lv_aload_n hx hb dXM_pastOf_27 rfl (lv_at hl 1 rfl) ?_
      refine mg_past hx hb hown hts hK hP dXM_pastOf_28 ?_
      refine lv_iload hx hb dXM_pastOf_31 (lv_at hl 0 rfl) ?_
      obtain ⟨h5, h⟩ := h
      refine ma_7 hx hb hK hP h5 dXM_pastOf_33 ?_
      refine lv_lor hx hb dXM_pastOf_34 ?_
      refine lv_lconst (v := 1) hx hb dXM_pastOf_35 (by decide) ?_
      refine lv_iload hx hb dXM_pastOf_36 (lv_at hl 0 rfl) ?_
      refine lv_lshl (v := hj_shl 1 r4) hx hb dXM_pastOf_38 rfl ?_
      refine lv_lor hx hb dXM_pastOf_39 ?_
      refine lv_topl (fun x6 ex6 => ?_)
      replace h := h x6 ex6
      refine lv_lstore_n (lv' := [(1, .long x6), (4, .int r4), (0, .ref h0), (3, .int v3)]) hx hb dXM_pastOf_40 rfl hl (by decide) rfl (fun ls hl => ?_)
      refine lv_iinc (v := v3 + 1) (lv' := [(3, .int (v3 + 1)), (1, .long x6), (4, .int r4), (0, .ref h0)]) hx hb dXM_pastOf_41 hl (k := 3) rfl rfl (by decide) rfl (fun ls hl => ?_)
      refine lv_goto (tgt := 4) hx hb dXM_pastOf_44 (by decide) ?_
      exact hK4 I_4 J_4 cn_4 cm_4 so_4 x6 (v3 + 1) h H locs ls hP hS (lv_sub hl [3, 1, 0] rfl)
set_option maxRecDepth 100000 in
set_option maxHeartbeats 4000000 in
theorem sMpastOf_in {p : Program} {l : Launch} {e : Env} {s : State} {m : MethodId} {args : Array Value} {below : List Frame} {meth : Method} {c : Code} {D : va_G} {A : Nat → Prop} {h0 : Nat} {ad : Nat → Nat} {cI cL : ClassId} {post : Int64 → (Nat → Nat → Int32) → (Nat → Nat → Int64) → Int32 → Int64 → Int32 → Prop} (C0 : mCx p s m args meth c D A h0 ad cI cL cXM_pastOf 5 (some .long)) : ∀ (I : Nat → Nat → Int32) (J : Nat → Nat → Int64) (cn : Int32) (cm : Int64) (so : Int32), wMpastOf post I J cn cm so → ∀ (H : Heap) (locs : List Loc) (ls : Array Slot), mW D h0 ad cI cL (I, J, cn, cm, so) H → va_S A s.heap H locs → lv_has ls 5 [(0, .ref h0)] → W p l e ({ frames := 1, cells := 0, slots := 0, locals := 24 } : Room) s m args below meth c H locs 0 0 (MQ below (va_Ql (fun (r : Int64) (u : mS) => post r u.1 u.2.1 u.2.2.1 u.2.2.2.1 u.2.2.2.2) (fxC (mW D h0 ad cI cL)) A) args s 0 0 A) (F0 m 0 ls []) := by
  obtain ⟨hx, hb, hr, hml, hown, hts, hlocks, hK, hN, hD⟩ := id C0
  intro I J cn cm so h H locs ls hP hS hl
  replace h : (∃ k, wMpastOf_4 post  k I J cn cm so 0 0) := h
  refine lv_lconst (v := 0) hx hb dXM_pastOf_0 (by decide) ?_
  refine lv_lstore_n (lv' := [(1, .long 0), (0, .ref h0)]) hx hb dXM_pastOf_1 rfl hl (by decide) rfl (fun ls hl => ?_)
  refine lv_iconst (v := 0) hx hb dXM_pastOf_2 (by decide) ?_
  refine lv_istore_n (lv' := [(3, .int 0), (1, .long 0), (0, .ref h0)]) hx hb dXM_pastOf_3 rfl hl (by decide) rfl (fun ls hl => ?_)
  obtain ⟨k, h⟩ := h
  exact sMpastOf_4  C0  k I J cn cm so 0 0 h H locs ls hP hS (lv_sub hl [2, 1, 0] rfl)
set_option maxRecDepth 100000 in
set_option maxHeartbeats 4000000 in
theorem cMpastOf {l : Launch} {D : va_G} {A : Nat → Prop} {h0 : Nat} {ad : Nat → Nat} {cI cL : ClassId} (hD : mDs A h0 ad cI cL) {post : Int64 → (Nat → Nat → Int32) → (Nat → Nat → Int64) → Int32 → Int64 → Int32 → Prop} {I : Nat → Nat → Int32} {J : Nat → Nat → Int64} {cn : Int32} {cm : Int64} {so : Int32} (h : wMpastOf post I J cn cm so) : Met l yXM_pastOf (.code yXM_pastOf cXM_pastOf 5 (some .long) :: lg_tbl) ({ frames := 1, cells := 0, slots := 0, locals := 24 } : Room) (va_Pc [.ref h0] (fxB (mW D h0 ad cI cL (I, J, cn, cm, so)) D vwCl (mTy cI cL))) (va_Ql (fun (r : Int64) (u : mS) => post r u.1 u.2.1 u.2.2.1 u.2.2.2.1 u.2.2.2.2) (fxC (mW D h0 ad cI cL)) A) 0 0 A := by
  refine fx_start (by decide +kernel) (Nat.le_of_ble_eq_true rfl) ?_
  intro p e s m below meth c ls hx hb hr hml hown hts hlocks hnm hB hl
  exact sMpastOf_in ⟨hx, hb, hr, hml, hown, hts, hlocks, hB.2.1, hB.2.2, hD⟩ I J cn cm so h _ _ ls hB.1 va_S.rf hl
def wMisRight_271 (post : Int32 → (Nat → Nat → Int32) → (Nat → Nat → Int64) → Int32 → Int64 → Int32 → Prop) (K97 : (Nat → Nat → Int32) → (Nat → Nat → Int64) → Int32 → Int64 → Int32 → Int64 → Int32 → Int32 → Prop) (I : Nat → Nat → Int32) (J : Nat → Nat → Int64) (cn : Int32) (cm : Int64) (so : Int32) (v1 : Int64) (v3 : Int32) (v4 : Int32) (v5 : Int32) (v6 : Int32) : Prop := ((v3 = 0 → (K97 I J cn cm so v1 0 (v4 + 1))) ∧ (¬ v3 = 0 → ((v5 = 0 → (K97 I J cn cm so v1 1 (v4 + 1))) ∧ (¬ v5 = 0 → ((v6 = 0 → (K97 I J cn cm so v1 0 (v4 + 1))) ∧ (¬ v6 = 0 → (K97 I J cn cm so v1 1 (v4 + 1))))))))
noncomputable def wMisRight_171 (post : Int32 → (Nat → Nat → Int32) → (Nat → Nat → Int64) → Int32 → Int64 → Int32 → Prop) (K97 : (Nat → Nat → Int32) → (Nat → Nat → Int64) → Int32 → Int64 → Int32 → Int64 → Int32 → Int32 → Prop) (n : Nat) : (Nat → Nat → Int32) → (Nat → Nat → Int64) → Int32 → Int64 → Int32 → Int64 → Int32 → Int32 → Int32 → Int32 → Int32 → Prop := Nat.rec (motive := fun _ => (Nat → Nat → Int32) → (Nat → Nat → Int64) → Int32 → Int64 → Int32 → Int64 → Int32 → Int32 → Int32 → Int32 → Int32 → Prop) (fun _ _ _ _ _ _ _ _ _ _ _ => False) (fun _ K171 I J cn cm so v1 v3 v4 v5 v6 v7 => ((cn ≤ v7 → (wMisRight_271 post K97 I J cn cm so v1 v3 v4 v5 v6)) ∧ (¬ cn ≤ v7 → ((v5 = 0 → (wMisRight_271 post K97 I J cn cm so v1 v3 v4 v5 v6)) ∧ (¬ v5 = 0 → ((¬ v6 = 0 → (K171 I J cn cm so v1 v3 v4 v5 1 (v7 + 1))) ∧ (v6 = 0 → (wMin (fun r28 I_28 J_28 cn_28 cm_28 so_28 => ((r28 = 0 → (K171 I_28 J_28 cn_28 cm_28 so_28 v1 v3 v4 v5 0 (v7 + 1))) ∧ (¬ r28 = 0 → (vp_in v7 40 ∧ ((¬ (I_28 1 (Int32.toNatClampNeg v7)) = 3 → (K171 I_28 J_28 cn_28 cm_28 so_28 v1 v3 v4 v5 0 (v7 + 1))) ∧ ((I_28 1 (Int32.toNatClampNeg v7)) = 3 → (vp_in v7 40 ∧ (vp_in 2 5 ∧ ((¬ (I_28 2 (Int32.toNatClampNeg v7)) = (I_28 9 (Int32.toNatClampNeg 2)) → (K171 I_28 J_28 cn_28 cm_28 so_28 v1 v3 v4 v5 0 (v7 + 1))) ∧ ((I_28 2 (Int32.toNatClampNeg v7)) = (I_28 9 (Int32.toNatClampNeg 2)) → (vp_in v7 40 ∧ (vp_in v4 40 ∧ ((¬ (I_28 0 (Int32.toNatClampNeg v7)) = (I_28 0 (Int32.toNatClampNeg v4)) → (K171 I_28 J_28 cn_28 cm_28 so_28 v1 v3 v4 v5 0 (v7 + 1))) ∧ ((I_28 0 (Int32.toNatClampNeg v7)) = (I_28 0 (Int32.toNatClampNeg v4)) → (vp_in v7 40 ∧ (wMin (fun r39 I_39 J_39 cn_39 cm_39 so_39 => ((r39 = 0 → (K171 I_39 J_39 cn_39 cm_39 so_39 v1 v3 v4 v5 0 (v7 + 1))) ∧ (¬ r39 = 0 → (K171 I_39 J_39 cn_39 cm_39 so_39 v1 v3 v4 v5 1 (v7 + 1))))) I_28 J_28 cn_28 cm_28 so_28 (J_28 2 (Int32.toNatClampNeg v7)) v4)))))))))))))))) I J cn cm so v1 v7)))))))) n
noncomputable def wMisRight_97 (post : Int32 → (Nat → Nat → Int32) → (Nat → Nat → Int64) → Int32 → Int64 → Int32 → Prop) (n : Nat) : (Nat → Nat → Int32) → (Nat → Nat → Int64) → Int32 → Int64 → Int32 → Int64 → Int32 → Int32 → Prop := Nat.rec (motive := fun _ => (Nat → Nat → Int32) → (Nat → Nat → Int64) → Int32 → Int64 → Int32 → Int64 → Int32 → Int32 → Prop) (fun _ _ _ _ _ _ _ _ => False) (fun _ K97 I J cn cm so v1 v3 v4 => ((cn ≤ v4 → (narrow .boolean (.int v3) = .int v3 ∧ post v3 I J cn cm so)) ∧ (¬ cn ≤ v4 → (wMin (fun r7 I_7 J_7 cn_7 cm_7 so_7 => ((r7 = 0 → (∃ k, wMisRight_171 post K97 k I_7 J_7 cn_7 cm_7 so_7 v1 v3 v4 0 0 0)) ∧ (¬ r7 = 0 → (vp_in v4 40 ∧ ((¬ (I_7 1 (Int32.toNatClampNeg v4)) = 2 → (∃ k, wMisRight_171 post K97 k I_7 J_7 cn_7 cm_7 so_7 v1 v3 v4 0 0 0)) ∧ ((I_7 1 (Int32.toNatClampNeg v4)) = 2 → (vp_in v4 40 ∧ (vp_in 2 5 ∧ ((¬ (I_7 2 (Int32.toNatClampNeg v4)) = (I_7 9 (Int32.toNatClampNeg 2)) → (∃ k, wMisRight_171 post K97 k I_7 J_7 cn_7 cm_7 so_7 v1 v3 v4 0 0 0)) ∧ ((I_7 2 (Int32.toNatClampNeg v4)) = (I_7 9 (Int32.toNatClampNeg 2)) → (vp_in v4 40 ∧ (vp_in 0 5 ∧ (((I_7 0 (Int32.toNatClampNeg v4)) = (I_7 9 (Int32.toNatClampNeg 0)) → (∃ k, wMisRight_171 post K97 k I_7 J_7 cn_7 cm_7 so_7 v1 v3 v4 0 0 0)) ∧ (¬ (I_7 0 (Int32.toNatClampNeg v4)) = (I_7 9 (Int32.toNatClampNeg 0)) → (∃ k, wMisRight_171 post K97 k I_7 J_7 cn_7 cm_7 so_7 v1 v3 v4 1 0 0))))))))))))))) I J cn cm so v1 v4)))) n
noncomputable def wMisRight_37 (post : Int32 → (Nat → Nat → Int32) → (Nat → Nat → Int64) → Int32 → Int64 → Int32 → Prop) (K10 : (Nat → Nat → Int32) → (Nat → Nat → Int64) → Int32 → Int64 → Int32 → Int64 → Int32 → Int32 → Prop) (n : Nat) : (Nat → Nat → Int32) → (Nat → Nat → Int64) → Int32 → Int64 → Int32 → Int64 → Int32 → Int32 → Int32 → Int32 → Prop := Nat.rec (motive := fun _ => (Nat → Nat → Int32) → (Nat → Nat → Int64) → Int32 → Int64 → Int32 → Int64 → Int32 → Int32 → Int32 → Int32 → Prop) (fun _ _ _ _ _ _ _ _ _ _ => False) (fun _ K37 I J cn cm so v1 v3 v4 v5 v6 => (vp_in 4 5 ∧ (((I 9 (Int32.toNatClampNeg 4)) ≤ v6 → (K10 I J cn cm so v1 v3 (v4 + 1))) ∧ (¬ (I 9 (Int32.toNatClampNeg 4)) ≤ v6 → ((v3 = 0 → (K37 I J cn cm so v1 0 v4 v5 (v6 + 1))) ∧ (¬ v3 = 0 → (vp_in v6 4 ∧ (wMfind (fun r21 I_21 J_21 cn_21 cm_21 so_21 => (vp_in r21 40 ∧ (wMin (fun r23 I_23 J_23 cn_23 cm_23 so_23 => ((¬ r23 = 0 → (K37 I_23 J_23 cn_23 cm_23 so_23 v1 0 v4 v5 (v6 + 1))) ∧ (r23 = 0 → (K37 I_23 J_23 cn_23 cm_23 so_23 v1 1 v4 v5 (v6 + 1))))) I_21 J_21 cn_21 cm_21 so_21 (J_21 2 (Int32.toNatClampNeg r21)) v5))) I J cn cm so (J 7 (Int32.toNatClampNeg v6)))))))))) n
noncomputable def wMisRight_10 (post : Int32 → (Nat → Nat → Int32) → (Nat → Nat → Int64) → Int32 → Int64 → Int32 → Prop) (n : Nat) : (Nat → Nat → Int32) → (Nat → Nat → Int64) → Int32 → Int64 → Int32 → Int64 → Int32 → Int32 → Prop := Nat.rec (motive := fun _ => (Nat → Nat → Int32) → (Nat → Nat → Int64) → Int32 → Int64 → Int32 → Int64 → Int32 → Int32 → Prop) (fun _ _ _ _ _ _ _ _ => False) (fun _ K10 I J cn cm so v1 v3 v4 => (vp_in 4 5 ∧ (((I 9 (Int32.toNatClampNeg 4)) ≤ v4 → (∃ k, wMisRight_97 post  k I J cn cm so v1 v3 0)) ∧ (¬ (I 9 (Int32.toNatClampNeg 4)) ≤ v4 → (vp_in v4 4 ∧ (wMfind (fun r5 I_5 J_5 cn_5 cm_5 so_5 => (∃ k, wMisRight_37 post K10 k I_5 J_5 cn_5 cm_5 so_5 v1 v3 v4 r5 0)) I J cn cm so (J 7 (Int32.toNatClampNeg v4)))))))) n
def wMisRight (post : Int32 → (Nat → Nat → Int32) → (Nat → Nat → Int64) → Int32 → Int64 → Int32 → Prop) (I : Nat → Nat → Int32) (J : Nat → Nat → Int64) (cn : Int32) (cm : Int64) (so : Int32) : Prop := (wMpastOf (fun r1 I_1 J_1 cn_1 cm_1 so_1 => (∃ k, wMisRight_10 post  k I_1 J_1 cn_1 cm_1 so_1 r1 1 0)) I J cn cm so )
set_option maxRecDepth 100000 in
set_option maxHeartbeats 4000000 in
theorem sMisRight_271 {p : Program} {l : Launch} {e : Env} {s : State} {m : MethodId} {args : Array Value} {below : List Frame} {meth : Method} {c : Code} {D : va_G} {A : Nat → Prop} {h0 : Nat} {ad : Nat → Nat} {cI cL : ClassId} {post : Int32 → (Nat → Nat → Int32) → (Nat → Nat → Int64) → Int32 → Int64 → Int32 → Prop} (C0 : mCx p s m args meth c D A h0 ad cI cL cXM_isRight 8 (some .boolean)) {K97 : (Nat → Nat → Int32) → (Nat → Nat → Int64) → Int32 → Int64 → Int32 → Int64 → Int32 → Int32 → Prop} (hK97 : ∀ (I : Nat → Nat → Int32) (J : Nat → Nat → Int64) (cn : Int32) (cm : Int64) (so : Int32) (v1 : Int64) (v3 : Int32) (v4 : Int32), K97 I J cn cm so v1 v3 v4 → ∀ (H : Heap) (locs : List Loc) (ls : Array Slot), mW D h0 ad cI cL (I, J, cn, cm, so) H → va_S A s.heap H locs → lv_has ls 8 [(0, .ref h0), (1, .long v1), (3, .int v3), (4, .int v4)] → W p l e ({ frames := 2, cells := 0, slots := 0, locals := 48 } : Room) s m args below meth c H locs 0 0 (MQ below (va_Qi (fun (r : Int32) (u : mS) => post r u.1 u.2.1 u.2.2.1 u.2.2.2.1 u.2.2.2.2) (fxC (mW D h0 ad cI cL)) A) args s 0 0 A) (F0 m 97 ls [])) : ∀ (I : Nat → Nat → Int32) (J : Nat → Nat → Int64) (cn : Int32) (cm : Int64) (so : Int32) (v1 : Int64) (v3 : Int32) (v4 : Int32) (v5 : Int32) (v6 : Int32), wMisRight_271 post K97 I J cn cm so v1 v3 v4 v5 v6 → ∀ (H : Heap) (locs : List Loc) (ls : Array Slot), mW D h0 ad cI cL (I, J, cn, cm, so) H → va_S A s.heap H locs → lv_has ls 8 [(0, .ref h0), (1, .long v1), (3, .int v3), (4, .int v4), (5, .int v5), (6, .int v6)] → W p l e ({ frames := 2, cells := 0, slots := 0, locals := 48 } : Room) s m args below meth c H locs 0 0 (MQ below (va_Qi (fun (r : Int32) (u : mS) => post r u.1 u.2.1 u.2.2.1 u.2.2.2.1 u.2.2.2.2) (fxC (mW D h0 ad cI cL)) A) args s 0 0 A) (F0 m 271 ls []) := by
  obtain ⟨hx, hb, hr, hml, hown, hts, hlocks, hK, hN, hD⟩ := id C0
  intro I J cn cm so v1 v3 v4 v5 v6 h H locs ls hP hS hl
  replace h : ((v3 = 0 → (K97 I J cn cm so v1 0 (v4 + 1))) ∧ (¬ v3 = 0 → ((v5 = 0 → (K97 I J cn cm so v1 1 (v4 + 1))) ∧ (¬ v5 = 0 → ((v6 = 0 → (K97 I J cn cm so v1 0 (v4 + 1))) ∧ (¬ v6 = 0 → (K97 I J cn cm so v1 1 (v4 + 1)))))))) := h
  refine lv_iload_n hx hb dXM_isRight_271 rfl (lv_at hl 2 rfl) ?_
  refine lv_if_eq (tgt := 289) hx hb dXM_isRight_272 (by decide) (fun c41 => ?_) (fun c41 => ?_)
  · replace h := h.1 c41
    refine lv_iconst (v := 0) hx hb dXM_isRight_289 (by decide) ?_
    refine lv_istore_n (lv' := [(3, .int 0), (0, .ref h0), (1, .long v1), (4, .int v4), (5, .int v5), (6, .int v6)]) hx hb dXM_isRight_290 rfl hl (by decide) rfl (fun ls hl => ?_)
    refine lv_iinc (v := v4 + 1) (lv' := [(4, .int (v4 + 1)), (3, .int 0), (0, .ref h0), (1, .long v1), (5, .int v5), (6, .int v6)]) hx hb dXM_isRight_291 hl (k := 3) rfl rfl (by decide) rfl (fun ls hl => ?_)
    refine lv_goto (tgt := 97) hx hb dXM_isRight_294 (by decide) ?_
    exact hK97 I J cn cm so v1 0 (v4 + 1) h H locs ls hP hS (lv_sub hl [2, 3, 1, 0] rfl)
  · replace h := h.2 c41
    refine lv_iload hx hb dXM_isRight_275 (lv_at hl 4 rfl) ?_
    refine lv_if_eq (tgt := 285) hx hb dXM_isRight_277 (by decide) (fun c42 => ?_) (fun c42 => ?_)
    · replace h := h.1 c42
      refine lv_iconst (v := 1) hx hb dXM_isRight_285 (by decide) ?_
      refine lv_goto (tgt := 290) hx hb dXM_isRight_286 (by decide) ?_
      refine lv_istore_n (lv' := [(3, .int 1), (0, .ref h0), (1, .long v1), (4, .int v4), (5, .int v5), (6, .int v6)]) hx hb dXM_isRight_290 rfl hl (by decide) rfl (fun ls hl => ?_)
      refine lv_iinc (v := v4 + 1) (lv' := [(4, .int (v4 + 1)), (3, .int 1), (0, .ref h0), (1, .long v1), (5, .int v5), (6, .int v6)]) hx hb dXM_isRight_291 hl (k := 3) rfl rfl (by decide) rfl (fun ls hl => ?_)
      refine lv_goto (tgt := 97) hx hb dXM_isRight_294 (by decide) ?_
      exact hK97 I J cn cm so v1 1 (v4 + 1) h H locs ls hP hS (lv_sub hl [2, 3, 1, 0] rfl)
    · replace h := h.2 c42
      refine lv_iload hx hb dXM_isRight_280 (lv_at hl 5 rfl) ?_
      refine lv_if_eq (tgt := 289) hx hb dXM_isRight_282 (by decide) (fun c43 => ?_) (fun c43 => ?_)
      · replace h := h.1 c43
        refine lv_iconst (v := 0) hx hb dXM_isRight_289 (by decide) ?_
        refine lv_istore_n (lv' := [(3, .int 0), (0, .ref h0), (1, .long v1), (4, .int v4), (5, .int v5), (6, .int v6)]) hx hb dXM_isRight_290 rfl hl (by decide) rfl (fun ls hl => ?_)
        refine lv_iinc (v := v4 + 1) (lv' := [(4, .int (v4 + 1)), (3, .int 0), (0, .ref h0), (1, .long v1), (5, .int v5), (6, .int v6)]) hx hb dXM_isRight_291 hl (k := 3) rfl rfl (by decide) rfl (fun ls hl => ?_)
        refine lv_goto (tgt := 97) hx hb dXM_isRight_294 (by decide) ?_
        exact hK97 I J cn cm so v1 0 (v4 + 1) h H locs ls hP hS (lv_sub hl [2, 3, 1, 0] rfl)
      · replace h := h.2 c43
        refine lv_iconst (v := 1) hx hb dXM_isRight_285 (by decide) ?_
        refine lv_goto (tgt := 290) hx hb dXM_isRight_286 (by decide) ?_
        refine lv_istore_n (lv' := [(3, .int 1), (0, .ref h0), (1, .long v1), (4, .int v4), (5, .int v5), (6, .int v6)]) hx hb dXM_isRight_290 rfl hl (by decide) rfl (fun ls hl => ?_)
        refine lv_iinc (v := v4 + 1) (lv' := [(4, .int (v4 + 1)), (3, .int 1), (0, .ref h0), (1, .long v1), (5, .int v5), (6, .int v6)]) hx hb dXM_isRight_291 hl (k := 3) rfl rfl (by decide) rfl (fun ls hl => ?_)
        refine lv_goto (tgt := 97) hx hb dXM_isRight_294 (by decide) ?_
        exact hK97 I J cn cm so v1 1 (v4 + 1) h H locs ls hP hS (lv_sub hl [2, 3, 1, 0] rfl)
set_option maxRecDepth 100000 in
set_option maxHeartbeats 4000000 in
theorem sMisRight_171 {p : Program} {l : Launch} {e : Env} {s : State} {m : MethodId} {args : Array Value} {below : List Frame} {meth : Method} {c : Code} {D : va_G} {A : Nat → Prop} {h0 : Nat} {ad : Nat → Nat} {cI cL : ClassId} {post : Int32 → (Nat → Nat → Int32) → (Nat → Nat → Int64) → Int32 → Int64 → Int32 → Prop} (C0 : mCx p s m args meth c D A h0 ad cI cL cXM_isRight 8 (some .boolean)) {K97 : (Nat → Nat → Int32) → (Nat → Nat → Int64) → Int32 → Int64 → Int32 → Int64 → Int32 → Int32 → Prop} (hK97 : ∀ (I : Nat → Nat → Int32) (J : Nat → Nat → Int64) (cn : Int32) (cm : Int64) (so : Int32) (v1 : Int64) (v3 : Int32) (v4 : Int32), K97 I J cn cm so v1 v3 v4 → ∀ (H : Heap) (locs : List Loc) (ls : Array Slot), mW D h0 ad cI cL (I, J, cn, cm, so) H → va_S A s.heap H locs → lv_has ls 8 [(0, .ref h0), (1, .long v1), (3, .int v3), (4, .int v4)] → W p l e ({ frames := 2, cells := 0, slots := 0, locals := 48 } : Room) s m args below meth c H locs 0 0 (MQ below (va_Qi (fun (r : Int32) (u : mS) => post r u.1 u.2.1 u.2.2.1 u.2.2.2.1 u.2.2.2.2) (fxC (mW D h0 ad cI cL)) A) args s 0 0 A) (F0 m 97 ls [])) : ∀ (n : Nat) (I : Nat → Nat → Int32) (J : Nat → Nat → Int64) (cn : Int32) (cm : Int64) (so : Int32) (v1 : Int64) (v3 : Int32) (v4 : Int32) (v5 : Int32) (v6 : Int32) (v7 : Int32), wMisRight_171 post K97 n I J cn cm so v1 v3 v4 v5 v6 v7 → ∀ (H : Heap) (locs : List Loc) (ls : Array Slot), mW D h0 ad cI cL (I, J, cn, cm, so) H → va_S A s.heap H locs → lv_has ls 8 [(0, .ref h0), (1, .long v1), (3, .int v3), (4, .int v4), (5, .int v5), (6, .int v6), (7, .int v7)] → W p l e ({ frames := 2, cells := 0, slots := 0, locals := 48 } : Room) s m args below meth c H locs 0 0 (MQ below (va_Qi (fun (r : Int32) (u : mS) => post r u.1 u.2.1 u.2.2.1 u.2.2.2.1 u.2.2.2.2) (fxC (mW D h0 ad cI cL)) A) args s 0 0 A) (F0 m 171 ls []) := by
  obtain ⟨hx, hb, hr, hml, hown, hts, hlocks, hK, hN, hD⟩ := id C0
  intro n
  induction n with
  | zero => exact fun _ _ _ _ _ _ _ _ _ _ _ h => h.elim
  | succ n hK171 =>
    intro I J cn cm so v1 v3 v4 v5 v6 v7 h H locs ls hP hS hl
    replace h : ((cn ≤ v7 → (wMisRight_271 post K97 I J cn cm so v1 v3 v4 v5 v6)) ∧ (¬ cn ≤ v7 → ((v5 = 0 → (wMisRight_271 post K97 I J cn cm so v1 v3 v4 v5 v6)) ∧ (¬ v5 = 0 → ((¬ v6 = 0 → ((wMisRight_171 post K97 n) I J cn cm so v1 v3 v4 v5 1 (v7 + 1))) ∧ (v6 = 0 → (wMin (fun r28 I_28 J_28 cn_28 cm_28 so_28 => ((r28 = 0 → ((wMisRight_171 post K97 n) I_28 J_28 cn_28 cm_28 so_28 v1 v3 v4 v5 0 (v7 + 1))) ∧ (¬ r28 = 0 → (vp_in v7 40 ∧ ((¬ (I_28 1 (Int32.toNatClampNeg v7)) = 3 → ((wMisRight_171 post K97 n) I_28 J_28 cn_28 cm_28 so_28 v1 v3 v4 v5 0 (v7 + 1))) ∧ ((I_28 1 (Int32.toNatClampNeg v7)) = 3 → (vp_in v7 40 ∧ (vp_in 2 5 ∧ ((¬ (I_28 2 (Int32.toNatClampNeg v7)) = (I_28 9 (Int32.toNatClampNeg 2)) → ((wMisRight_171 post K97 n) I_28 J_28 cn_28 cm_28 so_28 v1 v3 v4 v5 0 (v7 + 1))) ∧ ((I_28 2 (Int32.toNatClampNeg v7)) = (I_28 9 (Int32.toNatClampNeg 2)) → (vp_in v7 40 ∧ (vp_in v4 40 ∧ ((¬ (I_28 0 (Int32.toNatClampNeg v7)) = (I_28 0 (Int32.toNatClampNeg v4)) → ((wMisRight_171 post K97 n) I_28 J_28 cn_28 cm_28 so_28 v1 v3 v4 v5 0 (v7 + 1))) ∧ ((I_28 0 (Int32.toNatClampNeg v7)) = (I_28 0 (Int32.toNatClampNeg v4)) → (vp_in v7 40 ∧ (wMin (fun r39 I_39 J_39 cn_39 cm_39 so_39 => ((r39 = 0 → ((wMisRight_171 post K97 n) I_39 J_39 cn_39 cm_39 so_39 v1 v3 v4 v5 0 (v7 + 1))) ∧ (¬ r39 = 0 → ((wMisRight_171 post K97 n) I_39 J_39 cn_39 cm_39 so_39 v1 v3 v4 v5 1 (v7 + 1))))) I_28 J_28 cn_28 cm_28 so_28 (J_28 2 (Int32.toNatClampNeg v7)) v4)))))))))))))))) I J cn cm so v1 v7))))))) := h
    refine lv_iload hx hb dXM_isRight_171 (lv_at hl 6 rfl) ?_
    refine lv_aload_n hx hb dXM_isRight_173 rfl (lv_at hl 0 rfl) ?_
    refine mg_count hx hb hown hts hK hP dXM_isRight_174 ?_
    refine lv_icmp_ge (tgt := 271) hx hb dXM_isRight_177 (by decide) (fun c25 => ?_) (fun c25 => ?_)
    · replace h := h.1 c25
      exact sMisRight_271  C0 hK97 I J cn cm so v1 v3 v4 v5 v6 h H locs ls hP hS (lv_sub hl [0, 1, 2, 3, 4, 5] rfl)
    · replace h := h.2 c25
      refine lv_iload hx hb dXM_isRight_180 (lv_at hl 4 rfl) ?_
      refine lv_if_eq (tgt := 271) hx hb dXM_isRight_182 (by decide) (fun c26 => ?_) (fun c26 => ?_)
      · replace h := h.1 c26
        exact sMisRight_271  C0 hK97 I J cn cm so v1 v3 v4 v5 v6 h H locs ls hP hS (lv_sub hl [0, 1, 2, 3, 4, 5] rfl)
      · replace h := h.2 c26
        refine lv_iload hx hb dXM_isRight_185 (lv_at hl 5 rfl) ?_
        refine lv_if_ne (tgt := 258) hx hb dXM_isRight_187 (by decide) (fun c27 => ?_) (fun c27 => ?_)
        · replace h := h.1 c27
          refine lv_iconst (v := 1) hx hb dXM_isRight_258 (by decide) ?_
          refine lv_goto (tgt := 263) hx hb dXM_isRight_259 (by decide) ?_
          refine lv_istore (lv' := [(6, .int 1), (0, .ref h0), (1, .long v1), (3, .int v3), (4, .int v4), (5, .int v5), (7, .int v7)]) hx hb dXM_isRight_263 hl (by decide) rfl (fun ls hl => ?_)
          refine lv_iinc (v := v7 + 1) (lv' := [(7, .int (v7 + 1)), (6, .int 1), (0, .ref h0), (1, .long v1), (3, .int v3), (4, .int v4), (5, .int v5)]) hx hb dXM_isRight_265 hl (k := 6) rfl rfl (by decide) rfl (fun ls hl => ?_)
          refine lv_goto (tgt := 171) hx hb dXM_isRight_268 (by decide) ?_
          exact hK171 I J cn cm so v1 v3 v4 v5 1 (v7 + 1) h H locs ls hP hS (lv_sub hl [2, 3, 4, 5, 6, 1, 0] rfl)
        · replace h := h.2 c27
          refine lv_lload_n hx hb dXM_isRight_190 rfl (lv_at hl 1 rfl) ?_
          refine lv_iload hx hb dXM_isRight_191 (lv_at hl 6 rfl) ?_
          refine va_calli (va_runS (As := [.long v1, .int v7]) (rest := []) ⟨hx, hb, hml, hown, hts⟩ (cMin hD h) (fx_cwS 2 hts gw_M_88 hdXM_in ⟨Nat.le_of_ble_eq_true rfl, Nat.le_of_ble_eq_true rfl⟩) (fx_preS hP hK hN) rfl rfl hl.1 rfl (lv_room (Nat.le_of_ble_eq_true rfl)) dXM_isRight_193 ⟨Nat.le_of_ble_eq_true rfl, Nat.le_of_ble_eq_true rfl⟩) hS (fun _ _ q => q) (fun _ q => q) (fun r28 u t H locs ht hvm h hP hz hk hS => ?_)
          rw [fxC, ht] at hP
          obtain ⟨I_28, J_28, cn_28, cm_28, so_28⟩ := u
          dsimp only at h
          refine lv_if_eq (tgt := 262) hx hb dXM_isRight_196 (by decide) (fun c29 => ?_) (fun c29 => ?_)
          · replace h := h.1 c29
            refine lv_iconst (v := 0) hx hb dXM_isRight_262 (by decide) ?_
            refine lv_istore (lv' := [(6, .int 0), (0, .ref h0), (1, .long v1), (3, .int v3), (4, .int v4), (5, .int v5), (7, .int v7)]) hx hb dXM_isRight_263 hl (by decide) rfl (fun ls hl => ?_)
            refine lv_iinc (v := v7 + 1) (lv' := [(7, .int (v7 + 1)), (6, .int 0), (0, .ref h0), (1, .long v1), (3, .int v3), (4, .int v4), (5, .int v5)]) hx hb dXM_isRight_265 hl (k := 6) rfl rfl (by decide) rfl (fun ls hl => ?_)
            refine lv_goto (tgt := 171) hx hb dXM_isRight_268 (by decide) ?_
            exact hK171 I_28 J_28 cn_28 cm_28 so_28 v1 v3 v4 v5 0 (v7 + 1) h H locs ls hP hS (lv_sub hl [2, 3, 4, 5, 6, 1, 0] rfl)
          · replace h := h.2 c29
            refine lv_aload_n hx hb dXM_isRight_199 rfl (lv_at hl 0 rfl) ?_
            refine mg_kind hx hb hown hts hK hP dXM_isRight_200 ?_
            refine lv_iload hx hb dXM_isRight_203 (lv_at hl 6 rfl) ?_
            obtain ⟨h30, h⟩ := h
            refine ma_2 hx hb hK hP h30 dXM_isRight_205 ?_
            refine lv_iconst (v := 3) hx hb dXM_isRight_206 (by decide) ?_
            refine lv_icmp_ne (tgt := 262) hx hb dXM_isRight_207 (by decide) (fun c31 => ?_) (fun c31 => ?_)
            · replace h := h.1 c31
              refine lv_iconst (v := 0) hx hb dXM_isRight_262 (by decide) ?_
              refine lv_istore (lv' := [(6, .int 0), (0, .ref h0), (1, .long v1), (3, .int v3), (4, .int v4), (5, .int v5), (7, .int v7)]) hx hb dXM_isRight_263 hl (by decide) rfl (fun ls hl => ?_)
              refine lv_iinc (v := v7 + 1) (lv' := [(7, .int (v7 + 1)), (6, .int 0), (0, .ref h0), (1, .long v1), (3, .int v3), (4, .int v4), (5, .int v5)]) hx hb dXM_isRight_265 hl (k := 6) rfl rfl (by decide) rfl (fun ls hl => ?_)
              refine lv_goto (tgt := 171) hx hb dXM_isRight_268 (by decide) ?_
              exact hK171 I_28 J_28 cn_28 cm_28 so_28 v1 v3 v4 v5 0 (v7 + 1) h H locs ls hP hS (lv_sub hl [2, 3, 4, 5, 6, 1, 0] rfl)
            · replace h := h.2 c31
              refine lv_aload_n hx hb dXM_isRight_210 rfl (lv_at hl 0 rfl) ?_
              refine mg_key hx hb hown hts hK hP dXM_isRight_211 ?_
              refine lv_iload hx hb dXM_isRight_214 (lv_at hl 6 rfl) ?_
              obtain ⟨h32, h⟩ := h
              refine ma_3 hx hb hK hP h32 dXM_isRight_216 ?_
              refine lv_aload_n hx hb dXM_isRight_217 rfl (lv_at hl 0 rfl) ?_
              refine mg_numbers hx hb hown hts hK hP dXM_isRight_218 ?_
              refine lv_iconst (v := 2) hx hb dXM_isRight_221 (by decide) ?_
              obtain ⟨h33, h⟩ := h
              refine ma_16 hx hb hK hP h33 dXM_isRight_222 ?_
              refine lv_icmp_ne (tgt := 262) hx hb dXM_isRight_223 (by decide) (fun c34 => ?_) (fun c34 => ?_)
              · replace h := h.1 c34
                refine lv_iconst (v := 0) hx hb dXM_isRight_262 (by decide) ?_
                refine lv_istore (lv' := [(6, .int 0), (0, .ref h0), (1, .long v1), (3, .int v3), (4, .int v4), (5, .int v5), (7, .int v7)]) hx hb dXM_isRight_263 hl (by decide) rfl (fun ls hl => ?_)
                refine lv_iinc (v := v7 + 1) (lv' := [(7, .int (v7 + 1)), (6, .int 0), (0, .ref h0), (1, .long v1), (3, .int v3), (4, .int v4), (5, .int v5)]) hx hb dXM_isRight_265 hl (k := 6) rfl rfl (by decide) rfl (fun ls hl => ?_)
                refine lv_goto (tgt := 171) hx hb dXM_isRight_268 (by decide) ?_
                exact hK171 I_28 J_28 cn_28 cm_28 so_28 v1 v3 v4 v5 0 (v7 + 1) h H locs ls hP hS (lv_sub hl [2, 3, 4, 5, 6, 1, 0] rfl)
              · replace h := h.2 c34
                refine lv_aload_n hx hb dXM_isRight_226 rfl (lv_at hl 0 rfl) ?_
                refine mg_author hx hb hown hts hK hP dXM_isRight_227 ?_
                refine lv_iload hx hb dXM_isRight_230 (lv_at hl 6 rfl) ?_
                obtain ⟨h35, h⟩ := h
                refine ma_1 hx hb hK hP h35 dXM_isRight_232 ?_
                refine lv_aload_n hx hb dXM_isRight_233 rfl (lv_at hl 0 rfl) ?_
                refine mg_author hx hb hown hts hK hP dXM_isRight_234 ?_
                refine lv_iload hx hb dXM_isRight_237 (lv_at hl 3 rfl) ?_
                obtain ⟨h36, h⟩ := h
                refine ma_1 hx hb hK hP h36 dXM_isRight_239 ?_
                refine lv_icmp_ne (tgt := 262) hx hb dXM_isRight_240 (by decide) (fun c37 => ?_) (fun c37 => ?_)
                · replace h := h.1 c37
                  refine lv_iconst (v := 0) hx hb dXM_isRight_262 (by decide) ?_
                  refine lv_istore (lv' := [(6, .int 0), (0, .ref h0), (1, .long v1), (3, .int v3), (4, .int v4), (5, .int v5), (7, .int v7)]) hx hb dXM_isRight_263 hl (by decide) rfl (fun ls hl => ?_)
                  refine lv_iinc (v := v7 + 1) (lv' := [(7, .int (v7 + 1)), (6, .int 0), (0, .ref h0), (1, .long v1), (3, .int v3), (4, .int v4), (5, .int v5)]) hx hb dXM_isRight_265 hl (k := 6) rfl rfl (by decide) rfl (fun ls hl => ?_)
                  refine lv_goto (tgt := 171) hx hb dXM_isRight_268 (by decide) ?_
                  exact hK171 I_28 J_28 cn_28 cm_28 so_28 v1 v3 v4 v5 0 (v7 + 1) h H locs ls hP hS (lv_sub hl [2, 3, 4, 5, 6, 1, 0] rfl)
                · replace h := h.2 c37
                  refine lv_aload_n hx hb dXM_isRight_243 rfl (lv_at hl 0 rfl) ?_
                  refine mg_past hx hb hown hts hK hP dXM_isRight_244 ?_
                  refine lv_iload hx hb dXM_isRight_247 (lv_at hl 6 rfl) ?_
                  obtain ⟨h38, h⟩ := h
                  refine ma_7 hx hb hK hP h38 dXM_isRight_249 ?_
                  refine lv_iload hx hb dXM_isRight_250 (lv_at hl 3 rfl) ?_
                  refine va_calli (va_runS (As := [.long (J_28 2 (Int32.toNatClampNeg v7)), .int v4]) (rest := []) ⟨hx, hb, hml, hown, hts⟩ (cMin hD h) (fx_cwS 2 hts gw_M_88 hdXM_in ⟨Nat.le_of_ble_eq_true rfl, Nat.le_of_ble_eq_true rfl⟩) (fx_preS hP hK hN) rfl rfl hl.1 rfl (lv_room (Nat.le_of_ble_eq_true rfl)) dXM_isRight_252 ⟨Nat.le_of_ble_eq_true rfl, Nat.le_of_ble_eq_true rfl⟩) hS (fun _ _ q => q) (fun _ q => q) (fun r39 u t H locs ht hvm h hP hz hk hS => ?_)
                  rw [fxC, ht] at hP
                  obtain ⟨I_39, J_39, cn_39, cm_39, so_39⟩ := u
                  dsimp only at h
                  refine lv_if_eq (tgt := 262) hx hb dXM_isRight_255 (by decide) (fun c40 => ?_) (fun c40 => ?_)
                  · replace h := h.1 c40
                    refine lv_iconst (v := 0) hx hb dXM_isRight_262 (by decide) ?_
                    refine lv_istore (lv' := [(6, .int 0), (0, .ref h0), (1, .long v1), (3, .int v3), (4, .int v4), (5, .int v5), (7, .int v7)]) hx hb dXM_isRight_263 hl (by decide) rfl (fun ls hl => ?_)
                    refine lv_iinc (v := v7 + 1) (lv' := [(7, .int (v7 + 1)), (6, .int 0), (0, .ref h0), (1, .long v1), (3, .int v3), (4, .int v4), (5, .int v5)]) hx hb dXM_isRight_265 hl (k := 6) rfl rfl (by decide) rfl (fun ls hl => ?_)
                    refine lv_goto (tgt := 171) hx hb dXM_isRight_268 (by decide) ?_
                    exact hK171 I_39 J_39 cn_39 cm_39 so_39 v1 v3 v4 v5 0 (v7 + 1) h H locs ls hP hS (lv_sub hl [2, 3, 4, 5, 6, 1, 0] rfl)
                  · replace h := h.2 c40
                    refine lv_iconst (v := 1) hx hb dXM_isRight_258 (by decide) ?_
                    refine lv_goto (tgt := 263) hx hb dXM_isRight_259 (by decide) ?_
                    refine lv_istore (lv' := [(6, .int 1), (0, .ref h0), (1, .long v1), (3, .int v3), (4, .int v4), (5, .int v5), (7, .int v7)]) hx hb dXM_isRight_263 hl (by decide) rfl (fun ls hl => ?_)
                    refine lv_iinc (v := v7 + 1) (lv' := [(7, .int (v7 + 1)), (6, .int 1), (0, .ref h0), (1, .long v1), (3, .int v3), (4, .int v4), (5, .int v5)]) hx hb dXM_isRight_265 hl (k := 6) rfl rfl (by decide) rfl (fun ls hl => ?_)
                    refine lv_goto (tgt := 171) hx hb dXM_isRight_268 (by decide) ?_
                    exact hK171 I_39 J_39 cn_39 cm_39 so_39 v1 v3 v4 v5 1 (v7 + 1) h H locs ls hP hS (lv_sub hl [2, 3, 4, 5, 6, 1, 0] rfl)
set_option maxRecDepth 100000 in
set_option maxHeartbeats 4000000 in
theorem sMisRight_97 {p : Program} {l : Launch} {e : Env} {s : State} {m : MethodId} {args : Array Value} {below : List Frame} {meth : Method} {c : Code} {D : va_G} {A : Nat → Prop} {h0 : Nat} {ad : Nat → Nat} {cI cL : ClassId} {post : Int32 → (Nat → Nat → Int32) → (Nat → Nat → Int64) → Int32 → Int64 → Int32 → Prop} (C0 : mCx p s m args meth c D A h0 ad cI cL cXM_isRight 8 (some .boolean)) : ∀ (n : Nat) (I : Nat → Nat → Int32) (J : Nat → Nat → Int64) (cn : Int32) (cm : Int64) (so : Int32) (v1 : Int64) (v3 : Int32) (v4 : Int32), wMisRight_97 post  n I J cn cm so v1 v3 v4 → ∀ (H : Heap) (locs : List Loc) (ls : Array Slot), mW D h0 ad cI cL (I, J, cn, cm, so) H → va_S A s.heap H locs → lv_has ls 8 [(0, .ref h0), (1, .long v1), (3, .int v3), (4, .int v4)] → W p l e ({ frames := 2, cells := 0, slots := 0, locals := 48 } : Room) s m args below meth c H locs 0 0 (MQ below (va_Qi (fun (r : Int32) (u : mS) => post r u.1 u.2.1 u.2.2.1 u.2.2.2.1 u.2.2.2.2) (fxC (mW D h0 ad cI cL)) A) args s 0 0 A) (F0 m 97 ls []) := by
  obtain ⟨hx, hb, hr, hml, hown, hts, hlocks, hK, hN, hD⟩ := id C0
  intro n
  induction n with
  | zero => exact fun _ _ _ _ _ _ _ _ h => h.elim
  | succ n hK97 =>
    intro I J cn cm so v1 v3 v4 h H locs ls hP hS hl
    replace h : ((cn ≤ v4 → (narrow .boolean (.int v3) = .int v3 ∧ post v3 I J cn cm so)) ∧ (¬ cn ≤ v4 → (wMin (fun r7 I_7 J_7 cn_7 cm_7 so_7 => ((r7 = 0 → (∃ k, wMisRight_171 post (wMisRight_97 post  n) k I_7 J_7 cn_7 cm_7 so_7 v1 v3 v4 0 0 0)) ∧ (¬ r7 = 0 → (vp_in v4 40 ∧ ((¬ (I_7 1 (Int32.toNatClampNeg v4)) = 2 → (∃ k, wMisRight_171 post (wMisRight_97 post  n) k I_7 J_7 cn_7 cm_7 so_7 v1 v3 v4 0 0 0)) ∧ ((I_7 1 (Int32.toNatClampNeg v4)) = 2 → (vp_in v4 40 ∧ (vp_in 2 5 ∧ ((¬ (I_7 2 (Int32.toNatClampNeg v4)) = (I_7 9 (Int32.toNatClampNeg 2)) → (∃ k, wMisRight_171 post (wMisRight_97 post  n) k I_7 J_7 cn_7 cm_7 so_7 v1 v3 v4 0 0 0)) ∧ ((I_7 2 (Int32.toNatClampNeg v4)) = (I_7 9 (Int32.toNatClampNeg 2)) → (vp_in v4 40 ∧ (vp_in 0 5 ∧ (((I_7 0 (Int32.toNatClampNeg v4)) = (I_7 9 (Int32.toNatClampNeg 0)) → (∃ k, wMisRight_171 post (wMisRight_97 post  n) k I_7 J_7 cn_7 cm_7 so_7 v1 v3 v4 0 0 0)) ∧ (¬ (I_7 0 (Int32.toNatClampNeg v4)) = (I_7 9 (Int32.toNatClampNeg 0)) → (∃ k, wMisRight_171 post (wMisRight_97 post  n) k I_7 J_7 cn_7 cm_7 so_7 v1 v3 v4 1 0 0))))))))))))))) I J cn cm so v1 v4))) := h
    refine lv_iload hx hb dXM_isRight_97 (lv_at hl 3 rfl) ?_
    refine lv_aload_n hx hb dXM_isRight_99 rfl (lv_at hl 0 rfl) ?_
    refine mg_count hx hb hown hts hK hP dXM_isRight_100 ?_
    refine lv_icmp_ge (tgt := 297) hx hb dXM_isRight_103 (by decide) (fun c6 => ?_) (fun c6 => ?_)
    · replace h := h.1 c6
      refine lv_iload_n hx hb dXM_isRight_297 rfl (lv_at hl 2 rfl) ?_
      obtain ⟨hz, h⟩ := h
      exact W.zret hx hb hr hz (fun t ht hW => ⟨⟨_, (I, J, cn, cm, so), rfl, h, by rw [fxC, ht]; exact hP⟩, hS.F ht⟩) hS.2.2 dXM_isRight_298 hlocks
    · replace h := h.2 c6
      refine lv_lload_n hx hb dXM_isRight_106 rfl (lv_at hl 1 rfl) ?_
      refine lv_iload hx hb dXM_isRight_107 (lv_at hl 3 rfl) ?_
      refine va_calli (va_runS (As := [.long v1, .int v4]) (rest := []) ⟨hx, hb, hml, hown, hts⟩ (cMin hD h) (fx_cwS 2 hts gw_M_88 hdXM_in ⟨Nat.le_of_ble_eq_true rfl, Nat.le_of_ble_eq_true rfl⟩) (fx_preS hP hK hN) rfl rfl hl.1 rfl (lv_room (Nat.le_of_ble_eq_true rfl)) dXM_isRight_109 ⟨Nat.le_of_ble_eq_true rfl, Nat.le_of_ble_eq_true rfl⟩) hS (fun _ _ q => q) (fun _ q => q) (fun r7 u t H locs ht hvm h hP hz hk hS => ?_)
      rw [fxC, ht] at hP
      obtain ⟨I_7, J_7, cn_7, cm_7, so_7⟩ := u
      dsimp only at h
      refine lv_if_eq (tgt := 162) hx hb dXM_isRight_112 (by decide) (fun c8 => ?_) (fun c8 => ?_)
      · replace h := h.1 c8
        refine lv_iconst (v := 0) hx hb dXM_isRight_162 (by decide) ?_
        refine lv_istore (lv' := [(5, .int 0), (0, .ref h0), (1, .long v1), (3, .int v3), (4, .int v4)]) hx hb dXM_isRight_163 hl (by decide) rfl (fun ls hl => ?_)
        refine lv_iconst (v := 0) hx hb dXM_isRight_165 (by decide) ?_
        refine lv_istore (lv' := [(6, .int 0), (5, .int 0), (0, .ref h0), (1, .long v1), (3, .int v3), (4, .int v4)]) hx hb dXM_isRight_166 hl (by decide) rfl (fun ls hl => ?_)
        refine lv_iconst (v := 0) hx hb dXM_isRight_168 (by decide) ?_
        refine lv_istore (lv' := [(7, .int 0), (6, .int 0), (5, .int 0), (0, .ref h0), (1, .long v1), (3, .int v3), (4, .int v4)]) hx hb dXM_isRight_169 hl (by decide) rfl (fun ls hl => ?_)
        obtain ⟨k, h⟩ := h
        exact sMisRight_171  C0 hK97 k I_7 J_7 cn_7 cm_7 so_7 v1 v3 v4 0 0 0 h H locs ls hP hS (lv_sub hl [3, 4, 5, 6, 2, 1, 0] rfl)
      · replace h := h.2 c8
        refine lv_aload_n hx hb dXM_isRight_115 rfl (lv_at hl 0 rfl) ?_
        refine mg_kind hx hb hown hts hK hP dXM_isRight_116 ?_
        refine lv_iload hx hb dXM_isRight_119 (lv_at hl 3 rfl) ?_
        obtain ⟨h9, h⟩ := h
        refine ma_2 hx hb hK hP h9 dXM_isRight_121 ?_
        refine lv_iconst (v := 2) hx hb dXM_isRight_122 (by decide) ?_
        refine lv_icmp_ne (tgt := 162) hx hb dXM_isRight_123 (by decide) (fun c10 => ?_) (fun c10 => ?_)
        · replace h := h.1 c10
          refine lv_iconst (v := 0) hx hb dXM_isRight_162 (by decide) ?_
          refine lv_istore (lv' := [(5, .int 0), (0, .ref h0), (1, .long v1), (3, .int v3), (4, .int v4)]) hx hb dXM_isRight_163 hl (by decide) rfl (fun ls hl => ?_)
          refine lv_iconst (v := 0) hx hb dXM_isRight_165 (by decide) ?_
          refine lv_istore (lv' := [(6, .int 0), (5, .int 0), (0, .ref h0), (1, .long v1), (3, .int v3), (4, .int v4)]) hx hb dXM_isRight_166 hl (by decide) rfl (fun ls hl => ?_)
          refine lv_iconst (v := 0) hx hb dXM_isRight_168 (by decide) ?_
          refine lv_istore (lv' := [(7, .int 0), (6, .int 0), (5, .int 0), (0, .ref h0), (1, .long v1), (3, .int v3), (4, .int v4)]) hx hb dXM_isRight_169 hl (by decide) rfl (fun ls hl => ?_)
          obtain ⟨k, h⟩ := h
          exact sMisRight_171  C0 hK97 k I_7 J_7 cn_7 cm_7 so_7 v1 v3 v4 0 0 0 h H locs ls hP hS (lv_sub hl [3, 4, 5, 6, 2, 1, 0] rfl)
        · replace h := h.2 c10
          refine lv_aload_n hx hb dXM_isRight_126 rfl (lv_at hl 0 rfl) ?_
          refine mg_key hx hb hown hts hK hP dXM_isRight_127 ?_
          refine lv_iload hx hb dXM_isRight_130 (lv_at hl 3 rfl) ?_
          obtain ⟨h11, h⟩ := h
          refine ma_3 hx hb hK hP h11 dXM_isRight_132 ?_
          refine lv_aload_n hx hb dXM_isRight_133 rfl (lv_at hl 0 rfl) ?_
          refine mg_numbers hx hb hown hts hK hP dXM_isRight_134 ?_
          refine lv_iconst (v := 2) hx hb dXM_isRight_137 (by decide) ?_
          obtain ⟨h12, h⟩ := h
          refine ma_16 hx hb hK hP h12 dXM_isRight_138 ?_
          refine lv_icmp_ne (tgt := 162) hx hb dXM_isRight_139 (by decide) (fun c13 => ?_) (fun c13 => ?_)
          · replace h := h.1 c13
            refine lv_iconst (v := 0) hx hb dXM_isRight_162 (by decide) ?_
            refine lv_istore (lv' := [(5, .int 0), (0, .ref h0), (1, .long v1), (3, .int v3), (4, .int v4)]) hx hb dXM_isRight_163 hl (by decide) rfl (fun ls hl => ?_)
            refine lv_iconst (v := 0) hx hb dXM_isRight_165 (by decide) ?_
            refine lv_istore (lv' := [(6, .int 0), (5, .int 0), (0, .ref h0), (1, .long v1), (3, .int v3), (4, .int v4)]) hx hb dXM_isRight_166 hl (by decide) rfl (fun ls hl => ?_)
            refine lv_iconst (v := 0) hx hb dXM_isRight_168 (by decide) ?_
            refine lv_istore (lv' := [(7, .int 0), (6, .int 0), (5, .int 0), (0, .ref h0), (1, .long v1), (3, .int v3), (4, .int v4)]) hx hb dXM_isRight_169 hl (by decide) rfl (fun ls hl => ?_)
            obtain ⟨k, h⟩ := h
            exact sMisRight_171  C0 hK97 k I_7 J_7 cn_7 cm_7 so_7 v1 v3 v4 0 0 0 h H locs ls hP hS (lv_sub hl [3, 4, 5, 6, 2, 1, 0] rfl)
          · replace h := h.2 c13
            refine lv_aload_n hx hb dXM_isRight_142 rfl (lv_at hl 0 rfl) ?_
            refine mg_author hx hb hown hts hK hP dXM_isRight_143 ?_
            refine lv_iload hx hb dXM_isRight_146 (lv_at hl 3 rfl) ?_
            obtain ⟨h14, h⟩ := h
            refine ma_1 hx hb hK hP h14 dXM_isRight_148 ?_
            refine lv_aload_n hx hb dXM_isRight_149 rfl (lv_at hl 0 rfl) ?_
            refine mg_numbers hx hb hown hts hK hP dXM_isRight_150 ?_
            refine lv_iconst (v := 0) hx hb dXM_isRight_153 (by decide) ?_
            obtain ⟨h15, h⟩ := h
            refine ma_16 hx hb hK hP h15 dXM_isRight_154 ?_
            refine lv_icmp_eq (tgt := 162) hx hb dXM_isRight_155 (by decide) (fun c16 => ?_) (fun c16 => ?_)
            · replace h := h.1 c16
              refine lv_iconst (v := 0) hx hb dXM_isRight_162 (by decide) ?_
              refine lv_istore (lv' := [(5, .int 0), (0, .ref h0), (1, .long v1), (3, .int v3), (4, .int v4)]) hx hb dXM_isRight_163 hl (by decide) rfl (fun ls hl => ?_)
              refine lv_iconst (v := 0) hx hb dXM_isRight_165 (by decide) ?_
              refine lv_istore (lv' := [(6, .int 0), (5, .int 0), (0, .ref h0), (1, .long v1), (3, .int v3), (4, .int v4)]) hx hb dXM_isRight_166 hl (by decide) rfl (fun ls hl => ?_)
              refine lv_iconst (v := 0) hx hb dXM_isRight_168 (by decide) ?_
              refine lv_istore (lv' := [(7, .int 0), (6, .int 0), (5, .int 0), (0, .ref h0), (1, .long v1), (3, .int v3), (4, .int v4)]) hx hb dXM_isRight_169 hl (by decide) rfl (fun ls hl => ?_)
              obtain ⟨k, h⟩ := h
              exact sMisRight_171  C0 hK97 k I_7 J_7 cn_7 cm_7 so_7 v1 v3 v4 0 0 0 h H locs ls hP hS (lv_sub hl [3, 4, 5, 6, 2, 1, 0] rfl)
            · replace h := h.2 c16
              refine lv_iconst (v := 1) hx hb dXM_isRight_158 (by decide) ?_
              refine lv_goto (tgt := 163) hx hb dXM_isRight_159 (by decide) ?_
              refine lv_istore (lv' := [(5, .int 1), (0, .ref h0), (1, .long v1), (3, .int v3), (4, .int v4)]) hx hb dXM_isRight_163 hl (by decide) rfl (fun ls hl => ?_)
              refine lv_iconst (v := 0) hx hb dXM_isRight_165 (by decide) ?_
              refine lv_istore (lv' := [(6, .int 0), (5, .int 1), (0, .ref h0), (1, .long v1), (3, .int v3), (4, .int v4)]) hx hb dXM_isRight_166 hl (by decide) rfl (fun ls hl => ?_)
              refine lv_iconst (v := 0) hx hb dXM_isRight_168 (by decide) ?_
              refine lv_istore (lv' := [(7, .int 0), (6, .int 0), (5, .int 1), (0, .ref h0), (1, .long v1), (3, .int v3), (4, .int v4)]) hx hb dXM_isRight_169 hl (by decide) rfl (fun ls hl => ?_)
              obtain ⟨k, h⟩ := h
              exact sMisRight_171  C0 hK97 k I_7 J_7 cn_7 cm_7 so_7 v1 v3 v4 1 0 0 h H locs ls hP hS (lv_sub hl [3, 4, 5, 6, 2, 1, 0] rfl)
set_option maxRecDepth 100000 in
set_option maxHeartbeats 4000000 in
theorem sMisRight_37 {p : Program} {l : Launch} {e : Env} {s : State} {m : MethodId} {args : Array Value} {below : List Frame} {meth : Method} {c : Code} {D : va_G} {A : Nat → Prop} {h0 : Nat} {ad : Nat → Nat} {cI cL : ClassId} {post : Int32 → (Nat → Nat → Int32) → (Nat → Nat → Int64) → Int32 → Int64 → Int32 → Prop} (C0 : mCx p s m args meth c D A h0 ad cI cL cXM_isRight 8 (some .boolean)) {K10 : (Nat → Nat → Int32) → (Nat → Nat → Int64) → Int32 → Int64 → Int32 → Int64 → Int32 → Int32 → Prop} (hK10 : ∀ (I : Nat → Nat → Int32) (J : Nat → Nat → Int64) (cn : Int32) (cm : Int64) (so : Int32) (v1 : Int64) (v3 : Int32) (v4 : Int32), K10 I J cn cm so v1 v3 v4 → ∀ (H : Heap) (locs : List Loc) (ls : Array Slot), mW D h0 ad cI cL (I, J, cn, cm, so) H → va_S A s.heap H locs → lv_has ls 8 [(0, .ref h0), (1, .long v1), (3, .int v3), (4, .int v4)] → W p l e ({ frames := 2, cells := 0, slots := 0, locals := 48 } : Room) s m args below meth c H locs 0 0 (MQ below (va_Qi (fun (r : Int32) (u : mS) => post r u.1 u.2.1 u.2.2.1 u.2.2.2.1 u.2.2.2.2) (fxC (mW D h0 ad cI cL)) A) args s 0 0 A) (F0 m 10 ls [])) : ∀ (n : Nat) (I : Nat → Nat → Int32) (J : Nat → Nat → Int64) (cn : Int32) (cm : Int64) (so : Int32) (v1 : Int64) (v3 : Int32) (v4 : Int32) (v5 : Int32) (v6 : Int32), wMisRight_37 post K10 n I J cn cm so v1 v3 v4 v5 v6 → ∀ (H : Heap) (locs : List Loc) (ls : Array Slot), mW D h0 ad cI cL (I, J, cn, cm, so) H → va_S A s.heap H locs → lv_has ls 8 [(0, .ref h0), (1, .long v1), (3, .int v3), (4, .int v4), (5, .int v5), (6, .int v6)] → W p l e ({ frames := 2, cells := 0, slots := 0, locals := 48 } : Room) s m args below meth c H locs 0 0 (MQ below (va_Qi (fun (r : Int32) (u : mS) => post r u.1 u.2.1 u.2.2.1 u.2.2.2.1 u.2.2.2.2) (fxC (mW D h0 ad cI cL)) A) args s 0 0 A) (F0 m 37 ls []) := by
  obtain ⟨hx, hb, hr, hml, hown, hts, hlocks, hK, hN, hD⟩ := id C0
  intro n
  induction n with
  | zero => exact fun _ _ _ _ _ _ _ _ _ _ h => h.elim
  | succ n hK37 =>
    intro I J cn cm so v1 v3 v4 v5 v6 h H locs ls hP hS hl
    replace h : (vp_in 4 5 ∧ (((I 9 (Int32.toNatClampNeg 4)) ≤ v6 → (K10 I J cn cm so v1 v3 (v4 + 1))) ∧ (¬ (I 9 (Int32.toNatClampNeg 4)) ≤ v6 → ((v3 = 0 → ((wMisRight_37 post K10 n) I J cn cm so v1 0 v4 v5 (v6 + 1))) ∧ (¬ v3 = 0 → (vp_in v6 4 ∧ (wMfind (fun r21 I_21 J_21 cn_21 cm_21 so_21 => (vp_in r21 40 ∧ (wMin (fun r23 I_23 J_23 cn_23 cm_23 so_23 => ((¬ r23 = 0 → ((wMisRight_37 post K10 n) I_23 J_23 cn_23 cm_23 so_23 v1 0 v4 v5 (v6 + 1))) ∧ (r23 = 0 → ((wMisRight_37 post K10 n) I_23 J_23 cn_23 cm_23 so_23 v1 1 v4 v5 (v6 + 1))))) I_21 J_21 cn_21 cm_21 so_21 (J_21 2 (Int32.toNatClampNeg r21)) v5))) I J cn cm so (J 7 (Int32.toNatClampNeg v6))))))))) := h
    refine lv_iload hx hb dXM_isRight_37 (lv_at hl 5 rfl) ?_
    refine lv_aload_n hx hb dXM_isRight_39 rfl (lv_at hl 0 rfl) ?_
    refine mg_numbers hx hb hown hts hK hP dXM_isRight_40 ?_
    refine lv_iconst (v := 4) hx hb dXM_isRight_43 (by decide) ?_
    obtain ⟨h17, h⟩ := h
    refine ma_16 hx hb hK hP h17 dXM_isRight_44 ?_
    refine lv_icmp_ge (tgt := 88) hx hb dXM_isRight_45 (by decide) (fun c18 => ?_) (fun c18 => ?_)
    · replace h := h.1 c18
      refine lv_iinc (v := v4 + 1) (lv' := [(4, .int (v4 + 1)), (0, .ref h0), (1, .long v1), (3, .int v3), (5, .int v5), (6, .int v6)]) hx hb dXM_isRight_88 hl (k := 3) rfl rfl (by decide) rfl (fun ls hl => ?_)
      refine lv_goto (tgt := 10) hx hb dXM_isRight_91 (by decide) ?_
      exact hK10 I J cn cm so v1 v3 (v4 + 1) h H locs ls hP hS (lv_sub hl [1, 2, 3, 0] rfl)
    · replace h := h.2 c18
      refine lv_iload_n hx hb dXM_isRight_48 rfl (lv_at hl 2 rfl) ?_
      refine lv_if_eq (tgt := 80) hx hb dXM_isRight_49 (by decide) (fun c19 => ?_) (fun c19 => ?_)
      · replace h := h.1 c19
        refine lv_iconst (v := 0) hx hb dXM_isRight_80 (by decide) ?_
        refine lv_istore_n (lv' := [(3, .int 0), (0, .ref h0), (1, .long v1), (4, .int v4), (5, .int v5), (6, .int v6)]) hx hb dXM_isRight_81 rfl hl (by decide) rfl (fun ls hl => ?_)
        refine lv_iinc (v := v6 + 1) (lv' := [(6, .int (v6 + 1)), (3, .int 0), (0, .ref h0), (1, .long v1), (4, .int v4), (5, .int v5)]) hx hb dXM_isRight_82 hl (k := 5) rfl rfl (by decide) rfl (fun ls hl => ?_)
        refine lv_goto (tgt := 37) hx hb dXM_isRight_85 (by decide) ?_
        exact hK37 I J cn cm so v1 0 v4 v5 (v6 + 1) h H locs ls hP hS (lv_sub hl [2, 3, 1, 4, 5, 0] rfl)
      · replace h := h.2 c19
        refine lv_aload_n hx hb dXM_isRight_52 rfl (lv_at hl 0 rfl) ?_
        refine mg_past hx hb hown hts hK hP dXM_isRight_53 ?_
        refine lv_aload_n hx hb dXM_isRight_56 rfl (lv_at hl 0 rfl) ?_
        refine lv_aload_n hx hb dXM_isRight_57 rfl (lv_at hl 0 rfl) ?_
        refine mg_comingLink hx hb hown hts hK hP dXM_isRight_58 ?_
        refine lv_iload hx hb dXM_isRight_61 (lv_at hl 5 rfl) ?_
        obtain ⟨h20, h⟩ := h
        refine ma_17 hx hb hK hP h20 dXM_isRight_63 ?_
        refine va_calli (va_runV (As := [.long (J 7 (Int32.toNatClampNeg v6))]) (rest := [.ref (ad 7)]) ⟨hx, hb, hml, hown, hts⟩ (cMfind hD h) (fx_cwV 1 hts gw_M_84 hdXM_find ⟨Nat.le_of_ble_eq_true rfl, Nat.le_of_ble_eq_true rfl⟩) (fx_preV (m_recv hK hP) hP hK hN) rfl rfl hl.1 rfl (lv_room (Nat.le_of_ble_eq_true rfl)) dXM_isRight_64 ⟨Nat.le_of_ble_eq_true rfl, Nat.le_of_ble_eq_true rfl⟩) hS (fun _ _ q => q) (fun _ q => q) (fun r21 u t H locs ht hvm h hP hz hk hS => ?_)
        rw [fxC, ht] at hP
        obtain ⟨I_21, J_21, cn_21, cm_21, so_21⟩ := u
        dsimp only at h
        obtain ⟨h22, h⟩ := h
        refine ma_7 hx hb hK hP h22 dXM_isRight_67 ?_
        refine lv_iload hx hb dXM_isRight_68 (lv_at hl 4 rfl) ?_
        refine va_calli (va_runS (As := [.long (J_21 2 (Int32.toNatClampNeg r21)), .int v5]) (rest := []) ⟨hx, hb, hml, hown, hts⟩ (cMin hD h) (fx_cwS 2 hts gw_M_88 hdXM_in ⟨Nat.le_of_ble_eq_true rfl, Nat.le_of_ble_eq_true rfl⟩) (fx_preS hP hK hN) rfl rfl hl.1 rfl (lv_room (Nat.le_of_ble_eq_true rfl)) dXM_isRight_70 ⟨Nat.le_of_ble_eq_true rfl, Nat.le_of_ble_eq_true rfl⟩) hS (fun _ _ q => q) (fun _ q => q) (fun r23 u t H locs ht hvm h hP hz hk hS => ?_)
        rw [fxC, ht] at hP
        obtain ⟨I_23, J_23, cn_23, cm_23, so_23⟩ := u
        dsimp only at h
        refine lv_if_ne (tgt := 80) hx hb dXM_isRight_73 (by decide) (fun c24 => ?_) (fun c24 => ?_)
        · replace h := h.1 c24
          refine lv_iconst (v := 0) hx hb dXM_isRight_80 (by decide) ?_
          refine lv_istore_n (lv' := [(3, .int 0), (0, .ref h0), (1, .long v1), (4, .int v4), (5, .int v5), (6, .int v6)]) hx hb dXM_isRight_81 rfl hl (by decide) rfl (fun ls hl => ?_)
          refine lv_iinc (v := v6 + 1) (lv' := [(6, .int (v6 + 1)), (3, .int 0), (0, .ref h0), (1, .long v1), (4, .int v4), (5, .int v5)]) hx hb dXM_isRight_82 hl (k := 5) rfl rfl (by decide) rfl (fun ls hl => ?_)
          refine lv_goto (tgt := 37) hx hb dXM_isRight_85 (by decide) ?_
          exact hK37 I_23 J_23 cn_23 cm_23 so_23 v1 0 v4 v5 (v6 + 1) h H locs ls hP hS (lv_sub hl [2, 3, 1, 4, 5, 0] rfl)
        · replace h := h.2 c24
          refine lv_iconst (v := 1) hx hb dXM_isRight_76 (by decide) ?_
          refine lv_goto (tgt := 81) hx hb dXM_isRight_77 (by decide) ?_
          refine lv_istore_n (lv' := [(3, .int 1), (0, .ref h0), (1, .long v1), (4, .int v4), (5, .int v5), (6, .int v6)]) hx hb dXM_isRight_81 rfl hl (by decide) rfl (fun ls hl => ?_)
          refine lv_iinc (v := v6 + 1) (lv' := [(6, .int (v6 + 1)), (3, .int 1), (0, .ref h0), (1, .long v1), (4, .int v4), (5, .int v5)]) hx hb dXM_isRight_82 hl (k := 5) rfl rfl (by decide) rfl (fun ls hl => ?_)
          refine lv_goto (tgt := 37) hx hb dXM_isRight_85 (by decide) ?_
          exact hK37 I_23 J_23 cn_23 cm_23 so_23 v1 1 v4 v5 (v6 + 1) h H locs ls hP hS (lv_sub hl [2, 3, 1, 4, 5, 0] rfl)
set_option maxRecDepth 100000 in
set_option maxHeartbeats 4000000 in
theorem sMisRight_10 {p : Program} {l : Launch} {e : Env} {s : State} {m : MethodId} {args : Array Value} {below : List Frame} {meth : Method} {c : Code} {D : va_G} {A : Nat → Prop} {h0 : Nat} {ad : Nat → Nat} {cI cL : ClassId} {post : Int32 → (Nat → Nat → Int32) → (Nat → Nat → Int64) → Int32 → Int64 → Int32 → Prop} (C0 : mCx p s m args meth c D A h0 ad cI cL cXM_isRight 8 (some .boolean)) : ∀ (n : Nat) (I : Nat → Nat → Int32) (J : Nat → Nat → Int64) (cn : Int32) (cm : Int64) (so : Int32) (v1 : Int64) (v3 : Int32) (v4 : Int32), wMisRight_10 post  n I J cn cm so v1 v3 v4 → ∀ (H : Heap) (locs : List Loc) (ls : Array Slot), mW D h0 ad cI cL (I, J, cn, cm, so) H → va_S A s.heap H locs → lv_has ls 8 [(0, .ref h0), (1, .long v1), (3, .int v3), (4, .int v4)] → W p l e ({ frames := 2, cells := 0, slots := 0, locals := 48 } : Room) s m args below meth c H locs 0 0 (MQ below (va_Qi (fun (r : Int32) (u : mS) => post r u.1 u.2.1 u.2.2.1 u.2.2.2.1 u.2.2.2.2) (fxC (mW D h0 ad cI cL)) A) args s 0 0 A) (F0 m 10 ls []) := by
  obtain ⟨hx, hb, hr, hml, hown, hts, hlocks, hK, hN, hD⟩ := id C0
  intro n
  induction n with
  | zero => exact fun _ _ _ _ _ _ _ _ h => h.elim
  | succ n hK10 =>
    intro I J cn cm so v1 v3 v4 h H locs ls hP hS hl
    replace h : (vp_in 4 5 ∧ (((I 9 (Int32.toNatClampNeg 4)) ≤ v4 → (∃ k, wMisRight_97 post  k I J cn cm so v1 v3 0)) ∧ (¬ (I 9 (Int32.toNatClampNeg 4)) ≤ v4 → (vp_in v4 4 ∧ (wMfind (fun r5 I_5 J_5 cn_5 cm_5 so_5 => (∃ k, wMisRight_37 post (wMisRight_10 post  n) k I_5 J_5 cn_5 cm_5 so_5 v1 v3 v4 r5 0)) I J cn cm so (J 7 (Int32.toNatClampNeg v4))))))) := h
    refine lv_iload hx hb dXM_isRight_10 (lv_at hl 3 rfl) ?_
    refine lv_aload_n hx hb dXM_isRight_12 rfl (lv_at hl 0 rfl) ?_
    refine mg_numbers hx hb hown hts hK hP dXM_isRight_13 ?_
    refine lv_iconst (v := 4) hx hb dXM_isRight_16 (by decide) ?_
    obtain ⟨h2, h⟩ := h
    refine ma_16 hx hb hK hP h2 dXM_isRight_17 ?_
    refine lv_icmp_ge (tgt := 94) hx hb dXM_isRight_18 (by decide) (fun c3 => ?_) (fun c3 => ?_)
    · replace h := h.1 c3
      refine lv_iconst (v := 0) hx hb dXM_isRight_94 (by decide) ?_
      refine lv_istore (lv' := [(4, .int 0), (0, .ref h0), (1, .long v1), (3, .int v3)]) hx hb dXM_isRight_95 hl (by decide) rfl (fun ls hl => ?_)
      obtain ⟨k, h⟩ := h
      exact sMisRight_97  C0  k I J cn cm so v1 v3 0 h H locs ls hP hS (lv_sub hl [1, 2, 3, 0] rfl)
    · replace h := h.2 c3
      refine lv_aload_n hx hb dXM_isRight_21 rfl (lv_at hl 0 rfl) ?_
      refine lv_aload_n hx hb dXM_isRight_22 rfl (lv_at hl 0 rfl) ?_
      refine mg_comingLink hx hb hown hts hK hP dXM_isRight_23 ?_
      refine lv_iload hx hb dXM_isRight_26 (lv_at hl 3 rfl) ?_
      obtain ⟨h4, h⟩ := h
      refine ma_17 hx hb hK hP h4 dXM_isRight_28 ?_
      refine va_calli (va_runV (As := [.long (J 7 (Int32.toNatClampNeg v4))]) (rest := []) ⟨hx, hb, hml, hown, hts⟩ (cMfind hD h) (fx_cwV 1 hts gw_M_84 hdXM_find ⟨Nat.le_of_ble_eq_true rfl, Nat.le_of_ble_eq_true rfl⟩) (fx_preV (m_recv hK hP) hP hK hN) rfl rfl hl.1 rfl (lv_room (Nat.le_of_ble_eq_true rfl)) dXM_isRight_29 ⟨Nat.le_of_ble_eq_true rfl, Nat.le_of_ble_eq_true rfl⟩) hS (fun _ _ q => q) (fun _ q => q) (fun r5 u t H locs ht hvm h hP hz hk hS => ?_)
      rw [fxC, ht] at hP
      obtain ⟨I_5, J_5, cn_5, cm_5, so_5⟩ := u
      dsimp only at h
      refine lv_istore (lv' := [(5, .int r5), (0, .ref h0), (1, .long v1), (3, .int v3), (4, .int v4)]) hx hb dXM_isRight_32 hl (by decide) rfl (fun ls hl => ?_)
      refine lv_iconst (v := 0) hx hb dXM_isRight_34 (by decide) ?_
      refine lv_istore (lv' := [(6, .int 0), (5, .int r5), (0, .ref h0), (1, .long v1), (3, .int v3), (4, .int v4)]) hx hb dXM_isRight_35 hl (by decide) rfl (fun ls hl => ?_)
      obtain ⟨k, h⟩ := h
      exact sMisRight_37  C0 hK10 k I_5 J_5 cn_5 cm_5 so_5 v1 v3 v4 r5 0 h H locs ls hP hS (lv_sub hl [2, 3, 4, 5, 1, 0] rfl)
set_option maxRecDepth 100000 in
set_option maxHeartbeats 4000000 in
theorem sMisRight_in {p : Program} {l : Launch} {e : Env} {s : State} {m : MethodId} {args : Array Value} {below : List Frame} {meth : Method} {c : Code} {D : va_G} {A : Nat → Prop} {h0 : Nat} {ad : Nat → Nat} {cI cL : ClassId} {post : Int32 → (Nat → Nat → Int32) → (Nat → Nat → Int64) → Int32 → Int64 → Int32 → Prop} (C0 : mCx p s m args meth c D A h0 ad cI cL cXM_isRight 8 (some .boolean)) : ∀ (I : Nat → Nat → Int32) (J : Nat → Nat → Int64) (cn : Int32) (cm : Int64) (so : Int32), wMisRight post I J cn cm so → ∀ (H : Heap) (locs : List Loc) (ls : Array Slot), mW D h0 ad cI cL (I, J, cn, cm, so) H → va_S A s.heap H locs → lv_has ls 8 [(0, .ref h0)] → W p l e ({ frames := 2, cells := 0, slots := 0, locals := 48 } : Room) s m args below meth c H locs 0 0 (MQ below (va_Qi (fun (r : Int32) (u : mS) => post r u.1 u.2.1 u.2.2.1 u.2.2.2.1 u.2.2.2.2) (fxC (mW D h0 ad cI cL)) A) args s 0 0 A) (F0 m 0 ls []) := by
  obtain ⟨hx, hb, hr, hml, hown, hts, hlocks, hK, hN, hD⟩ := id C0
  intro I J cn cm so h H locs ls hP hS hl
  replace h : (wMpastOf (fun r1 I_1 J_1 cn_1 cm_1 so_1 => (∃ k, wMisRight_10 post  k I_1 J_1 cn_1 cm_1 so_1 r1 1 0)) I J cn cm so ) := h
  refine lv_aload_n hx hb dXM_isRight_0 rfl (lv_at hl 0 rfl) ?_
  refine va_calll (va_runV (As := []) (rest := []) ⟨hx, hb, hml, hown, hts⟩ (cMpastOf hD h) (fx_cwV 0 hts gw_M_92 hdXM_pastOf ⟨Nat.le_of_ble_eq_true rfl, Nat.le_of_ble_eq_true rfl⟩) (fx_preV (m_recv hK hP) hP hK hN) rfl rfl hl.1 rfl (lv_room (Nat.le_of_ble_eq_true rfl)) dXM_isRight_1 ⟨Nat.le_of_ble_eq_true rfl, Nat.le_of_ble_eq_true rfl⟩) hS (fun _ _ q => q) (fun _ q => q) (fun r1 u t H locs ht hvm h hP hz hk hS => ?_)
  rw [fxC, ht] at hP
  obtain ⟨I_1, J_1, cn_1, cm_1, so_1⟩ := u
  dsimp only at h
  refine lv_lstore_n (lv' := [(1, .long r1), (0, .ref h0)]) hx hb dXM_isRight_4 rfl hl (by decide) rfl (fun ls hl => ?_)
  refine lv_iconst (v := 1) hx hb dXM_isRight_5 (by decide) ?_
  refine lv_istore_n (lv' := [(3, .int 1), (1, .long r1), (0, .ref h0)]) hx hb dXM_isRight_6 rfl hl (by decide) rfl (fun ls hl => ?_)
  refine lv_iconst (v := 0) hx hb dXM_isRight_7 (by decide) ?_
  refine lv_istore (lv' := [(4, .int 0), (3, .int 1), (1, .long r1), (0, .ref h0)]) hx hb dXM_isRight_8 hl (by decide) rfl (fun ls hl => ?_)
  obtain ⟨k, h⟩ := h
  exact sMisRight_10  C0  k I_1 J_1 cn_1 cm_1 so_1 r1 1 0 h H locs ls hP hS (lv_sub hl [3, 2, 1, 0] rfl)
set_option maxRecDepth 100000 in
set_option maxHeartbeats 4000000 in
theorem cMisRight {l : Launch} {D : va_G} {A : Nat → Prop} {h0 : Nat} {ad : Nat → Nat} {cI cL : ClassId} (hD : mDs A h0 ad cI cL) {post : Int32 → (Nat → Nat → Int32) → (Nat → Nat → Int64) → Int32 → Int64 → Int32 → Prop} {I : Nat → Nat → Int32} {J : Nat → Nat → Int64} {cn : Int32} {cm : Int64} {so : Int32} (h : wMisRight post I J cn cm so) : Met l yXM_isRight (.code yXM_isRight cXM_isRight 8 (some .boolean) :: lg_tbl) ({ frames := 2, cells := 0, slots := 0, locals := 48 } : Room) (va_Pc [.ref h0] (fxB (mW D h0 ad cI cL (I, J, cn, cm, so)) D vwCl (mTy cI cL))) (va_Qi (fun (r : Int32) (u : mS) => post r u.1 u.2.1 u.2.2.1 u.2.2.2.1 u.2.2.2.2) (fxC (mW D h0 ad cI cL)) A) 0 0 A := by
  refine fx_start (by decide +kernel) (Nat.le_of_ble_eq_true rfl) ?_
  intro p e s m below meth c ls hx hb hr hml hown hts hlocks hnm hB hl
  exact sMisRight_in ⟨hx, hb, hr, hml, hown, hts, hlocks, hB.2.1, hB.2.2, hD⟩ I J cn cm so h _ _ ls hB.1 va_S.rf hl
noncomputable def wMdepthOf_4 (post : Int32 → (Nat → Nat → Int32) → (Nat → Nat → Int64) → Int32 → Int64 → Int32 → Prop) (n : Nat) : (Nat → Nat → Int32) → (Nat → Nat → Int64) → Int32 → Int64 → Int32 → Int32 → Int32 → Prop := Nat.rec (motive := fun _ => (Nat → Nat → Int32) → (Nat → Nat → Int64) → Int32 → Int64 → Int32 → Int32 → Int32 → Prop) (fun _ _ _ _ _ _ _ => False) (fun _ K4 I J cn cm so v1 v2 => (vp_in 4 5 ∧ (((I 9 (Int32.toNatClampNeg 4)) ≤ v2 → (post (v1 + 1) I J cn cm so)) ∧ (¬ (I 9 (Int32.toNatClampNeg 4)) ≤ v2 → (vp_in v2 4 ∧ (wMfind (fun r4 I_4 J_4 cn_4 cm_4 so_4 => (vp_in r4 40 ∧ (((I_4 5 (Int32.toNatClampNeg r4)) ≤ v1 → (K4 I_4 J_4 cn_4 cm_4 so_4 v1 (v2 + 1))) ∧ (¬ (I_4 5 (Int32.toNatClampNeg r4)) ≤ v1 → (vp_in r4 40 ∧ (K4 I_4 J_4 cn_4 cm_4 so_4 (I_4 5 (Int32.toNatClampNeg r4)) (v2 + 1))))))) I J cn cm so (J 7 (Int32.toNatClampNeg v2)))))))) n
def wMdepthOf (post : Int32 → (Nat → Nat → Int32) → (Nat → Nat → Int64) → Int32 → Int64 → Int32 → Prop) (I : Nat → Nat → Int32) (J : Nat → Nat → Int64) (cn : Int32) (cm : Int64) (so : Int32) : Prop := (∃ k, wMdepthOf_4 post  k I J cn cm so 0 0)
set_option maxRecDepth 100000 in
set_option maxHeartbeats 4000000 in
theorem sMdepthOf_4 {p : Program} {l : Launch} {e : Env} {s : State} {m : MethodId} {args : Array Value} {below : List Frame} {meth : Method} {c : Code} {D : va_G} {A : Nat → Prop} {h0 : Nat} {ad : Nat → Nat} {cI cL : ClassId} {post : Int32 → (Nat → Nat → Int32) → (Nat → Nat → Int64) → Int32 → Int64 → Int32 → Prop} (C0 : mCx p s m args meth c D A h0 ad cI cL cXM_depthOf 4 (some .int)) : ∀ (n : Nat) (I : Nat → Nat → Int32) (J : Nat → Nat → Int64) (cn : Int32) (cm : Int64) (so : Int32) (v1 : Int32) (v2 : Int32), wMdepthOf_4 post  n I J cn cm so v1 v2 → ∀ (H : Heap) (locs : List Loc) (ls : Array Slot), mW D h0 ad cI cL (I, J, cn, cm, so) H → va_S A s.heap H locs → lv_has ls 4 [(0, .ref h0), (1, .int v1), (2, .int v2)] → W p l e ({ frames := 1, cells := 0, slots := 0, locals := 24 } : Room) s m args below meth c H locs 0 0 (MQ below (va_Qi (fun (r : Int32) (u : mS) => post r u.1 u.2.1 u.2.2.1 u.2.2.2.1 u.2.2.2.2) (fxC (mW D h0 ad cI cL)) A) args s 0 0 A) (F0 m 4 ls []) := by
  obtain ⟨hx, hb, hr, hml, hown, hts, hlocks, hK, hN, hD⟩ := id C0
  intro n
  induction n with
  | zero => exact fun _ _ _ _ _ _ _ h => h.elim
  | succ n hK4 =>
    intro I J cn cm so v1 v2 h H locs ls hP hS hl
    replace h : (vp_in 4 5 ∧ (((I 9 (Int32.toNatClampNeg 4)) ≤ v2 → (post (v1 + 1) I J cn cm so)) ∧ (¬ (I 9 (Int32.toNatClampNeg 4)) ≤ v2 → (vp_in v2 4 ∧ (wMfind (fun r4 I_4 J_4 cn_4 cm_4 so_4 => (vp_in r4 40 ∧ (((I_4 5 (Int32.toNatClampNeg r4)) ≤ v1 → ((wMdepthOf_4 post  n) I_4 J_4 cn_4 cm_4 so_4 v1 (v2 + 1))) ∧ (¬ (I_4 5 (Int32.toNatClampNeg r4)) ≤ v1 → (vp_in r4 40 ∧ ((wMdepthOf_4 post  n) I_4 J_4 cn_4 cm_4 so_4 (I_4 5 (Int32.toNatClampNeg r4)) (v2 + 1))))))) I J cn cm so (J 7 (Int32.toNatClampNeg v2))))))) := h
    refine lv_iload_n hx hb dXM_depthOf_4 rfl (lv_at hl 2 rfl) ?_
    refine lv_aload_n hx hb dXM_depthOf_5 rfl (lv_at hl 0 rfl) ?_
    refine mg_numbers hx hb hown hts hK hP dXM_depthOf_6 ?_
    refine lv_iconst (v := 4) hx hb dXM_depthOf_9 (by decide) ?_
    obtain ⟨h1, h⟩ := h
    refine ma_16 hx hb hK hP h1 dXM_depthOf_10 ?_
    refine lv_icmp_ge (tgt := 52) hx hb dXM_depthOf_11 (by decide) (fun c2 => ?_) (fun c2 => ?_)
    · replace h := h.1 c2
      refine lv_iload_n hx hb dXM_depthOf_52 rfl (lv_at hl 1 rfl) ?_
      refine lv_iconst (v := 1) hx hb dXM_depthOf_53 (by decide) ?_
      refine lv_iadd hx hb dXM_depthOf_54 ?_
      exact W.iret hx hb hr (fun t ht hW => ⟨⟨_, (I, J, cn, cm, so), rfl, h, by rw [fxC, ht]; exact hP⟩, hS.F ht⟩) hS.2.2 dXM_depthOf_55 hlocks
    · replace h := h.2 c2
      refine lv_aload_n hx hb dXM_depthOf_14 rfl (lv_at hl 0 rfl) ?_
      refine lv_aload_n hx hb dXM_depthOf_15 rfl (lv_at hl 0 rfl) ?_
      refine mg_comingLink hx hb hown hts hK hP dXM_depthOf_16 ?_
      refine lv_iload_n hx hb dXM_depthOf_19 rfl (lv_at hl 2 rfl) ?_
      obtain ⟨h3, h⟩ := h
      refine ma_17 hx hb hK hP h3 dXM_depthOf_20 ?_
      refine va_calli (va_runV (As := [.long (J 7 (Int32.toNatClampNeg v2))]) (rest := []) ⟨hx, hb, hml, hown, hts⟩ (cMfind hD h) (fx_cwV 1 hts gw_M_84 hdXM_find ⟨Nat.le_of_ble_eq_true rfl, Nat.le_of_ble_eq_true rfl⟩) (fx_preV (m_recv hK hP) hP hK hN) rfl rfl hl.1 rfl (lv_room (Nat.le_of_ble_eq_true rfl)) dXM_depthOf_21 ⟨Nat.le_of_ble_eq_true rfl, Nat.le_of_ble_eq_true rfl⟩) hS (fun _ _ q => q) (fun _ q => q) (fun r4 u t H locs ht hvm h hP hz hk hS => ?_)
      rw [fxC, ht] at hP
      obtain ⟨I_4, J_4, cn_4, cm_4, so_4⟩ := u
      dsimp only at h
      refine lv_istore_n (lv' := [(3, .int r4), (0, .ref h0), (1, .int v1), (2, .int v2)]) hx hb dXM_depthOf_24 rfl hl (by decide) rfl (fun ls hl => ?_)
      refine lv_aload_n hx hb dXM_depthOf_25 rfl (lv_at hl 1 rfl) ?_
      refine mg_depth hx hb hown hts hK hP dXM_depthOf_26 ?_
      refine lv_iload_n hx hb dXM_depthOf_29 rfl (lv_at hl 0 rfl) ?_
      obtain ⟨h5, h⟩ := h
      refine ma_8 hx hb hK hP h5 dXM_depthOf_30 ?_
      refine lv_iload_n hx hb dXM_depthOf_31 rfl (lv_at hl 2 rfl) ?_
      refine lv_icmp_le (tgt := 44) hx hb dXM_depthOf_32 (by decide) (fun c6 => ?_) (fun c6 => ?_)
      · replace h := h.1 c6
        refine lv_iload_n hx hb dXM_depthOf_44 rfl (lv_at hl 2 rfl) ?_
        refine lv_istore_n (lv' := [(1, .int v1), (3, .int r4), (0, .ref h0), (2, .int v2)]) hx hb dXM_depthOf_45 rfl hl (by decide) rfl (fun ls hl => ?_)
        refine lv_iinc (v := v2 + 1) (lv' := [(2, .int (v2 + 1)), (1, .int v1), (3, .int r4), (0, .ref h0)]) hx hb dXM_depthOf_46 hl (k := 3) rfl rfl (by decide) rfl (fun ls hl => ?_)
        refine lv_goto (tgt := 4) hx hb dXM_depthOf_49 (by decide) ?_
        exact hK4 I_4 J_4 cn_4 cm_4 so_4 v1 (v2 + 1) h H locs ls hP hS (lv_sub hl [3, 1, 0] rfl)
      · replace h := h.2 c6
        refine lv_aload_n hx hb dXM_depthOf_35 rfl (lv_at hl 1 rfl) ?_
        refine mg_depth hx hb hown hts hK hP dXM_depthOf_36 ?_
        refine lv_iload_n hx hb dXM_depthOf_39 rfl (lv_at hl 0 rfl) ?_
        obtain ⟨h7, h⟩ := h
        refine ma_8 hx hb hK hP h7 dXM_depthOf_40 ?_
        refine lv_goto (tgt := 45) hx hb dXM_depthOf_41 (by decide) ?_
        refine lv_istore_n (lv' := [(1, .int (I_4 5 (Int32.toNatClampNeg r4))), (3, .int r4), (0, .ref h0), (2, .int v2)]) hx hb dXM_depthOf_45 rfl hl (by decide) rfl (fun ls hl => ?_)
        refine lv_iinc (v := v2 + 1) (lv' := [(2, .int (v2 + 1)), (1, .int (I_4 5 (Int32.toNatClampNeg r4))), (3, .int r4), (0, .ref h0)]) hx hb dXM_depthOf_46 hl (k := 3) rfl rfl (by decide) rfl (fun ls hl => ?_)
        refine lv_goto (tgt := 4) hx hb dXM_depthOf_49 (by decide) ?_
        exact hK4 I_4 J_4 cn_4 cm_4 so_4 (I_4 5 (Int32.toNatClampNeg r4)) (v2 + 1) h H locs ls hP hS (lv_sub hl [3, 1, 0] rfl)
set_option maxRecDepth 100000 in
set_option maxHeartbeats 4000000 in
theorem sMdepthOf_in {p : Program} {l : Launch} {e : Env} {s : State} {m : MethodId} {args : Array Value} {below : List Frame} {meth : Method} {c : Code} {D : va_G} {A : Nat → Prop} {h0 : Nat} {ad : Nat → Nat} {cI cL : ClassId} {post : Int32 → (Nat → Nat → Int32) → (Nat → Nat → Int64) → Int32 → Int64 → Int32 → Prop} (C0 : mCx p s m args meth c D A h0 ad cI cL cXM_depthOf 4 (some .int)) : ∀ (I : Nat → Nat → Int32) (J : Nat → Nat → Int64) (cn : Int32) (cm : Int64) (so : Int32), wMdepthOf post I J cn cm so → ∀ (H : Heap) (locs : List Loc) (ls : Array Slot), mW D h0 ad cI cL (I, J, cn, cm, so) H → va_S A s.heap H locs → lv_has ls 4 [(0, .ref h0)] → W p l e ({ frames := 1, cells := 0, slots := 0, locals := 24 } : Room) s m args below meth c H locs 0 0 (MQ below (va_Qi (fun (r : Int32) (u : mS) => post r u.1 u.2.1 u.2.2.1 u.2.2.2.1 u.2.2.2.2) (fxC (mW D h0 ad cI cL)) A) args s 0 0 A) (F0 m 0 ls []) := by
  obtain ⟨hx, hb, hr, hml, hown, hts, hlocks, hK, hN, hD⟩ := id C0
  intro I J cn cm so h H locs ls hP hS hl
  replace h : (∃ k, wMdepthOf_4 post  k I J cn cm so 0 0) := h
  refine lv_iconst (v := 0) hx hb dXM_depthOf_0 (by decide) ?_
  refine lv_istore_n (lv' := [(1, .int 0), (0, .ref h0)]) hx hb dXM_depthOf_1 rfl hl (by decide) rfl (fun ls hl => ?_)
  refine lv_iconst (v := 0) hx hb dXM_depthOf_2 (by decide) ?_
  refine lv_istore_n (lv' := [(2, .int 0), (1, .int 0), (0, .ref h0)]) hx hb dXM_depthOf_3 rfl hl (by decide) rfl (fun ls hl => ?_)
  obtain ⟨k, h⟩ := h
  exact sMdepthOf_4  C0  k I J cn cm so 0 0 h H locs ls hP hS (lv_sub hl [2, 1, 0] rfl)
set_option maxRecDepth 100000 in
set_option maxHeartbeats 4000000 in
theorem cMdepthOf {l : Launch} {D : va_G} {A : Nat → Prop} {h0 : Nat} {ad : Nat → Nat} {cI cL : ClassId} (hD : mDs A h0 ad cI cL) {post : Int32 → (Nat → Nat → Int32) → (Nat → Nat → Int64) → Int32 → Int64 → Int32 → Prop} {I : Nat → Nat → Int32} {J : Nat → Nat → Int64} {cn : Int32} {cm : Int64} {so : Int32} (h : wMdepthOf post I J cn cm so) : Met l yXM_depthOf (.code yXM_depthOf cXM_depthOf 4 (some .int) :: lg_tbl) ({ frames := 1, cells := 0, slots := 0, locals := 24 } : Room) (va_Pc [.ref h0] (fxB (mW D h0 ad cI cL (I, J, cn, cm, so)) D vwCl (mTy cI cL))) (va_Qi (fun (r : Int32) (u : mS) => post r u.1 u.2.1 u.2.2.1 u.2.2.2.1 u.2.2.2.2) (fxC (mW D h0 ad cI cL)) A) 0 0 A := by
  refine fx_start (by decide +kernel) (Nat.le_of_ble_eq_true rfl) ?_
  intro p e s m below meth c ls hx hb hr hml hown hts hlocks hnm hB hl
  exact sMdepthOf_in ⟨hx, hb, hr, hml, hown, hts, hlocks, hB.2.1, hB.2.2, hD⟩ I J cn cm so h _ _ ls hB.1 va_S.rf hl
end
section
def wMenter_111 (post : Int32 → (Nat → Nat → Int32) → (Nat → Nat → Int64) → Int32 → Int64 → Int32 → Prop) (K77 : (Nat → Nat → Int32) → (Nat → Nat → Int64) → Int32 → Int64 → Int32 → Int32 → Int32 → Prop) (I : Nat → Nat → Int32) (J : Nat → Nat → Int64) (cn : Int32) (cm : Int64) (so : Int32) (v1 : Int32) (v2 : Int32) (t0 : Int64) (t1 : Int32) : Prop := (vp_in t1 160 ∧ ∀ J28, J28 = mj_up J 1 (Int32.toNatClampNeg t1) t0 → (K77 I J28 cn cm so v1 (v2 + 1)))
noncomputable def wMenter_77 (post : Int32 → (Nat → Nat → Int32) → (Nat → Nat → Int64) → Int32 → Int64 → Int32 → Prop) (n : Nat) : (Nat → Nat → Int32) → (Nat → Nat → Int64) → Int32 → Int64 → Int32 → Int32 → Int32 → Prop := Nat.rec (motive := fun _ => (Nat → Nat → Int32) → (Nat → Nat → Int64) → Int32 → Int64 → Int32 → Int32 → Int32 → Prop) (fun _ _ _ _ _ _ _ => False) (fun _ K77 I J cn cm so v1 v2 => ((4 ≤ v2 → (wMpastOf (fun r19 I_19 J_19 cn_19 cm_19 so_19 => (vp_in v1 40 ∧ ∀ J20, J20 = mj_up J_19 2 (Int32.toNatClampNeg v1) r19 → (wMdepthOf (fun r22 I_22 J_22 cn_22 cm_22 so_22 => (vp_in v1 40 ∧ ∀ I23, I23 = mi_up I_22 5 (Int32.toNatClampNeg v1) r22 → (post v1 I23 J_22 (cn_22 + 1) cm_22 so_22))) I_19 J20 cn_19 cm_19 so_19 ))) I J cn cm so )) ∧ (¬ 4 ≤ v2 → (vp_in 4 5 ∧ (((I 9 (Int32.toNatClampNeg 4)) ≤ v2 → (wMenter_111 post K77 I J cn cm so v1 v2 0 ((4 * v1) + v2))) ∧ (¬ (I 9 (Int32.toNatClampNeg 4)) ≤ v2 → (vp_in v2 4 ∧ (wMenter_111 post K77 I J cn cm so v1 v2 (J 7 (Int32.toNatClampNeg v2)) ((4 * v1) + v2))))))))) n
def wMenter (post : Int32 → (Nat → Nat → Int32) → (Nat → Nat → Int64) → Int32 → Int64 → Int32 → Prop) (I : Nat → Nat → Int32) (J : Nat → Nat → Int64) (cn : Int32) (cm : Int64) (so : Int32) : Prop := (vp_in cn 40 ∧ ∀ J1, J1 = mj_up J 0 (Int32.toNatClampNeg cn) cm → (vp_in 0 5 ∧ (vp_in cn 40 ∧ ∀ I4, I4 = mi_up I 0 (Int32.toNatClampNeg cn) (I 9 (Int32.toNatClampNeg 0)) → (vp_in 1 5 ∧ (vp_in cn 40 ∧ ∀ I7, I7 = mi_up I4 1 (Int32.toNatClampNeg cn) (I4 9 (Int32.toNatClampNeg 1)) → (vp_in 2 5 ∧ (vp_in cn 40 ∧ ∀ I10, I10 = mi_up I7 2 (Int32.toNatClampNeg cn) (I7 9 (Int32.toNatClampNeg 2)) → (vp_in 3 5 ∧ (vp_in cn 40 ∧ ∀ I13, I13 = mi_up I10 3 (Int32.toNatClampNeg cn) (I10 9 (Int32.toNatClampNeg 3)) → (vp_in 4 5 ∧ (vp_in cn 40 ∧ ∀ I16, I16 = mi_up I13 4 (Int32.toNatClampNeg cn) (I13 9 (Int32.toNatClampNeg 4)) → (∃ k, wMenter_77 post  k I16 J1 cn cm so cn 0))))))))))))
set_option maxRecDepth 100000 in
set_option maxHeartbeats 4000000 in
theorem sMenter_111 {p : Program} {l : Launch} {e : Env} {s : State} {m : MethodId} {args : Array Value} {below : List Frame} {meth : Method} {c : Code} {D : va_G} {A : Nat → Prop} {h0 : Nat} {ad : Nat → Nat} {cI cL : ClassId} {post : Int32 → (Nat → Nat → Int32) → (Nat → Nat → Int64) → Int32 → Int64 → Int32 → Prop} (C0 : mCx p s m args meth c D A h0 ad cI cL cXM_enter 3 (some .int)) {K77 : (Nat → Nat → Int32) → (Nat → Nat → Int64) → Int32 → Int64 → Int32 → Int32 → Int32 → Prop} (hK77 : ∀ (I : Nat → Nat → Int32) (J : Nat → Nat → Int64) (cn : Int32) (cm : Int64) (so : Int32) (v1 : Int32) (v2 : Int32), K77 I J cn cm so v1 v2 → ∀ (H : Heap) (locs : List Loc) (ls : Array Slot), mW D h0 ad cI cL (I, J, cn, cm, so) H → va_S A s.heap H locs → lv_has ls 3 [(0, .ref h0), (1, .int v1), (2, .int v2)] → W p l e ({ frames := 2, cells := 0, slots := 0, locals := 48 } : Room) s m args below meth c H locs 0 0 (MQ below (va_Qi (fun (r : Int32) (u : mS) => post r u.1 u.2.1 u.2.2.1 u.2.2.2.1 u.2.2.2.2) (fxC (mW D h0 ad cI cL)) A) args s 0 0 A) (F0 m 77 ls [])) : ∀ (I : Nat → Nat → Int32) (J : Nat → Nat → Int64) (cn : Int32) (cm : Int64) (so : Int32) (v1 : Int32) (v2 : Int32) (t0 : Int64) (t1 : Int32), wMenter_111 post K77 I J cn cm so v1 v2 t0 t1 → ∀ (H : Heap) (locs : List Loc) (ls : Array Slot), mW D h0 ad cI cL (I, J, cn, cm, so) H → va_S A s.heap H locs → lv_has ls 3 [(0, .ref h0), (1, .int v1), (2, .int v2)] → W p l e ({ frames := 2, cells := 0, slots := 0, locals := 48 } : Room) s m args below meth c H locs 0 0 (MQ below (va_Qi (fun (r : Int32) (u : mS) => post r u.1 u.2.1 u.2.2.1 u.2.2.2.1 u.2.2.2.2) (fxC (mW D h0 ad cI cL)) A) args s 0 0 A) (F0 m 111 ls [.long t0, .int t1, .ref (ad 6)]) := by
  obtain ⟨hx, hb, hr, hml, hown, hts, hlocks, hK, hN, hD⟩ := id C0
  intro I J cn cm so v1 v2 t0 t1 h H locs ls hP hS hl
  replace h : (vp_in t1 160 ∧ ∀ J28, J28 = mj_up J 1 (Int32.toNatClampNeg t1) t0 → (K77 I J28 cn cm so v1 (v2 + 1))) := h
  obtain ⟨h29, h⟩ := h
  obtain ⟨J28, eJ28⟩ : ∃ y, y = mj_up J 1 (Int32.toNatClampNeg t1) t0 := ⟨_, rfl⟩
  replace h := h J28 eJ28
  refine ms_6 hx hb hK hD hP hS h29 dXM_enter_111 (fun H locs hP hS => ?_)
  rw [← eJ28] at hP
  refine lv_iinc (v := v2 + 1) (lv' := [(2, .int (v2 + 1)), (0, .ref h0), (1, .int v1)]) hx hb dXM_enter_112 hl (k := 2) rfl rfl (by decide) rfl (fun ls hl => ?_)
  refine lv_goto (tgt := 77) hx hb dXM_enter_115 (by decide) ?_
  exact hK77 I J28 cn cm so v1 (v2 + 1) h H locs ls hP hS (lv_sub hl [1, 2, 0] rfl)
set_option maxRecDepth 100000 in
set_option maxHeartbeats 4000000 in
theorem sMenter_77 {p : Program} {l : Launch} {e : Env} {s : State} {m : MethodId} {args : Array Value} {below : List Frame} {meth : Method} {c : Code} {D : va_G} {A : Nat → Prop} {h0 : Nat} {ad : Nat → Nat} {cI cL : ClassId} {post : Int32 → (Nat → Nat → Int32) → (Nat → Nat → Int64) → Int32 → Int64 → Int32 → Prop} (C0 : mCx p s m args meth c D A h0 ad cI cL cXM_enter 3 (some .int)) : ∀ (n : Nat) (I : Nat → Nat → Int32) (J : Nat → Nat → Int64) (cn : Int32) (cm : Int64) (so : Int32) (v1 : Int32) (v2 : Int32), wMenter_77 post  n I J cn cm so v1 v2 → ∀ (H : Heap) (locs : List Loc) (ls : Array Slot), mW D h0 ad cI cL (I, J, cn, cm, so) H → va_S A s.heap H locs → lv_has ls 3 [(0, .ref h0), (1, .int v1), (2, .int v2)] → W p l e ({ frames := 2, cells := 0, slots := 0, locals := 48 } : Room) s m args below meth c H locs 0 0 (MQ below (va_Qi (fun (r : Int32) (u : mS) => post r u.1 u.2.1 u.2.2.1 u.2.2.2.1 u.2.2.2.2) (fxC (mW D h0 ad cI cL)) A) args s 0 0 A) (F0 m 77 ls []) := by
  obtain ⟨hx, hb, hr, hml, hown, hts, hlocks, hK, hN, hD⟩ := id C0
  intro n
  induction n with
  | zero => exact fun _ _ _ _ _ _ _ h => h.elim
  | succ n hK77 =>
    intro I J cn cm so v1 v2 h H locs ls hP hS hl
    replace h : ((4 ≤ v2 → (wMpastOf (fun r19 I_19 J_19 cn_19 cm_19 so_19 => (vp_in v1 40 ∧ ∀ J20, J20 = mj_up J_19 2 (Int32.toNatClampNeg v1) r19 → (wMdepthOf (fun r22 I_22 J_22 cn_22 cm_22 so_22 => (vp_in v1 40 ∧ ∀ I23, I23 = mi_up I_22 5 (Int32.toNatClampNeg v1) r22 → (post v1 I23 J_22 (cn_22 + 1) cm_22 so_22))) I_19 J20 cn_19 cm_19 so_19 ))) I J cn cm so )) ∧ (¬ 4 ≤ v2 → (vp_in 4 5 ∧ (((I 9 (Int32.toNatClampNeg 4)) ≤ v2 → (wMenter_111 post (wMenter_77 post  n) I J cn cm so v1 v2 0 ((4 * v1) + v2))) ∧ (¬ (I 9 (Int32.toNatClampNeg 4)) ≤ v2 → (vp_in v2 4 ∧ (wMenter_111 post (wMenter_77 post  n) I J cn cm so v1 v2 (J 7 (Int32.toNatClampNeg v2)) ((4 * v1) + v2)))))))) := h
    refine lv_iload_n hx hb dXM_enter_77 rfl (lv_at hl 2 rfl) ?_
    refine lv_iconst (v := 4) hx hb dXM_enter_78 (by decide) ?_
    refine lv_icmp_ge (tgt := 118) hx hb dXM_enter_79 (by decide) (fun c18 => ?_) (fun c18 => ?_)
    · replace h := h.1 c18
      refine lv_aload_n hx hb dXM_enter_118 rfl (lv_at hl 0 rfl) ?_
      refine mg_past hx hb hown hts hK hP dXM_enter_119 ?_
      refine lv_iload_n hx hb dXM_enter_122 rfl (lv_at hl 1 rfl) ?_
      refine lv_aload_n hx hb dXM_enter_123 rfl (lv_at hl 0 rfl) ?_
      refine va_calll (va_runV (As := []) (rest := [.int v1, .ref (ad 7)]) ⟨hx, hb, hml, hown, hts⟩ (cMpastOf hD h) (fx_cwV 0 hts gw_M_92 hdXM_pastOf ⟨Nat.le_of_ble_eq_true rfl, Nat.le_of_ble_eq_true rfl⟩) (fx_preV (m_recv hK hP) hP hK hN) rfl rfl hl.1 rfl (lv_room (Nat.le_of_ble_eq_true rfl)) dXM_enter_124 ⟨Nat.le_of_ble_eq_true rfl, Nat.le_of_ble_eq_true rfl⟩) hS (fun _ _ q => q) (fun _ q => q) (fun r19 u t H locs ht hvm h hP hz hk hS => ?_)
      rw [fxC, ht] at hP
      obtain ⟨I_19, J_19, cn_19, cm_19, so_19⟩ := u
      dsimp only at h
      obtain ⟨h21, h⟩ := h
      obtain ⟨J20, eJ20⟩ : ∃ y, y = mj_up J_19 2 (Int32.toNatClampNeg v1) r19 := ⟨_, rfl⟩
      replace h := h J20 eJ20
      refine ms_7 hx hb hK hD hP hS h21 dXM_enter_127 (fun H locs hP hS => ?_)
      rw [← eJ20] at hP
      refine lv_aload_n hx hb dXM_enter_128 rfl (lv_at hl 0 rfl) ?_
      refine mg_depth hx hb hown hts hK hP dXM_enter_129 ?_
      refine lv_iload_n hx hb dXM_enter_132 rfl (lv_at hl 1 rfl) ?_
      refine lv_aload_n hx hb dXM_enter_133 rfl (lv_at hl 0 rfl) ?_
      refine va_calli (va_runV (As := []) (rest := [.int v1, .ref (ad 8)]) ⟨hx, hb, hml, hown, hts⟩ (cMdepthOf hD h) (fx_cwV 0 hts gw_M_96 hdXM_depthOf ⟨Nat.le_of_ble_eq_true rfl, Nat.le_of_ble_eq_true rfl⟩) (fx_preV (m_recv hK hP) hP hK hN) rfl rfl hl.1 rfl (lv_room (Nat.le_of_ble_eq_true rfl)) dXM_enter_134 ⟨Nat.le_of_ble_eq_true rfl, Nat.le_of_ble_eq_true rfl⟩) hS (fun _ _ q => q) (fun _ q => q) (fun r22 u t H locs ht hvm h hP hz hk hS => ?_)
      rw [fxC, ht] at hP
      obtain ⟨I_22, J_22, cn_22, cm_22, so_22⟩ := u
      dsimp only at h
      obtain ⟨h24, h⟩ := h
      obtain ⟨I23, eI23⟩ : ∃ y, y = mi_up I_22 5 (Int32.toNatClampNeg v1) r22 := ⟨_, rfl⟩
      replace h := h I23 eI23
      refine ms_8 hx hb hK hD hP hS h24 dXM_enter_137 (fun H locs hP hS => ?_)
      rw [← eI23] at hP
      refine lv_aload_n hx hb dXM_enter_138 rfl (lv_at hl 0 rfl) ?_
      refine lv_dup hx hb dXM_enter_139 rfl ?_
      refine mg_count hx hb hown hts hK hP dXM_enter_140 ?_
      refine lv_iconst (v := 1) hx hb dXM_enter_143 (by decide) ?_
      refine lv_iadd hx hb dXM_enter_144 ?_
      refine mp_count hx hb hown hts hK hD hP hS dXM_enter_145 (fun H locs hP hS => ?_)
      refine lv_iload_n hx hb dXM_enter_148 rfl (lv_at hl 1 rfl) ?_
      exact W.iret hx hb hr (fun t ht hW => ⟨⟨_, (I23, J_22, cn_22 + 1, cm_22, so_22), rfl, h, by rw [fxC, ht]; exact hP⟩, hS.F ht⟩) hS.2.2 dXM_enter_149 hlocks
    · replace h := h.2 c18
      refine lv_aload_n hx hb dXM_enter_82 rfl (lv_at hl 0 rfl) ?_
      refine mg_link hx hb hown hts hK hP dXM_enter_83 ?_
      refine lv_iconst (v := 4) hx hb dXM_enter_86 (by decide) ?_
      refine lv_iload_n hx hb dXM_enter_87 rfl (lv_at hl 1 rfl) ?_
      refine lv_imul hx hb dXM_enter_88 ?_
      refine lv_iload_n hx hb dXM_enter_89 rfl (lv_at hl 2 rfl) ?_
      refine lv_iadd hx hb dXM_enter_90 ?_
      refine lv_iload_n hx hb dXM_enter_91 rfl (lv_at hl 2 rfl) ?_
      refine lv_aload_n hx hb dXM_enter_92 rfl (lv_at hl 0 rfl) ?_
      refine mg_numbers hx hb hown hts hK hP dXM_enter_93 ?_
      refine lv_iconst (v := 4) hx hb dXM_enter_96 (by decide) ?_
      obtain ⟨h25, h⟩ := h
      refine ma_16 hx hb hK hP h25 dXM_enter_97 ?_
      refine lv_icmp_ge (tgt := 110) hx hb dXM_enter_98 (by decide) (fun c26 => ?_) (fun c26 => ?_)
      · replace h := h.1 c26
        refine lv_lconst (v := 0) hx hb dXM_enter_110 (by decide) ?_
        exact sMenter_111  C0 hK77 I J cn cm so v1 v2 0 ((4 * v1) + v2) h H locs ls hP hS (lv_sub hl [0, 1, 2] rfl)
      · replace h := h.2 c26
        refine lv_aload_n hx hb dXM_enter_101 rfl (lv_at hl 0 rfl) ?_
        refine mg_comingLink hx hb hown hts hK hP dXM_enter_102 ?_
        refine lv_iload_n hx hb dXM_enter_105 rfl (lv_at hl 2 rfl) ?_
        obtain ⟨h27, h⟩ := h
        refine ma_17 hx hb hK hP h27 dXM_enter_106 ?_
        refine lv_goto (tgt := 111) hx hb dXM_enter_107 (by decide) ?_
        exact sMenter_111  C0 hK77 I J cn cm so v1 v2 (J 7 (Int32.toNatClampNeg v2)) ((4 * v1) + v2) h H locs ls hP hS (lv_sub hl [0, 1, 2] rfl)
set_option maxRecDepth 100000 in
set_option maxHeartbeats 4000000 in
theorem sMenter_in {p : Program} {l : Launch} {e : Env} {s : State} {m : MethodId} {args : Array Value} {below : List Frame} {meth : Method} {c : Code} {D : va_G} {A : Nat → Prop} {h0 : Nat} {ad : Nat → Nat} {cI cL : ClassId} {post : Int32 → (Nat → Nat → Int32) → (Nat → Nat → Int64) → Int32 → Int64 → Int32 → Prop} (C0 : mCx p s m args meth c D A h0 ad cI cL cXM_enter 3 (some .int)) : ∀ (I : Nat → Nat → Int32) (J : Nat → Nat → Int64) (cn : Int32) (cm : Int64) (so : Int32), wMenter post I J cn cm so → ∀ (H : Heap) (locs : List Loc) (ls : Array Slot), mW D h0 ad cI cL (I, J, cn, cm, so) H → va_S A s.heap H locs → lv_has ls 3 [(0, .ref h0)] → W p l e ({ frames := 2, cells := 0, slots := 0, locals := 48 } : Room) s m args below meth c H locs 0 0 (MQ below (va_Qi (fun (r : Int32) (u : mS) => post r u.1 u.2.1 u.2.2.1 u.2.2.2.1 u.2.2.2.2) (fxC (mW D h0 ad cI cL)) A) args s 0 0 A) (F0 m 0 ls []) := by
  obtain ⟨hx, hb, hr, hml, hown, hts, hlocks, hK, hN, hD⟩ := id C0
  intro I J cn cm so h H locs ls hP hS hl
  replace h : (vp_in cn 40 ∧ ∀ J1, J1 = mj_up J 0 (Int32.toNatClampNeg cn) cm → (vp_in 0 5 ∧ (vp_in cn 40 ∧ ∀ I4, I4 = mi_up I 0 (Int32.toNatClampNeg cn) (I 9 (Int32.toNatClampNeg 0)) → (vp_in 1 5 ∧ (vp_in cn 40 ∧ ∀ I7, I7 = mi_up I4 1 (Int32.toNatClampNeg cn) (I4 9 (Int32.toNatClampNeg 1)) → (vp_in 2 5 ∧ (vp_in cn 40 ∧ ∀ I10, I10 = mi_up I7 2 (Int32.toNatClampNeg cn) (I7 9 (Int32.toNatClampNeg 2)) → (vp_in 3 5 ∧ (vp_in cn 40 ∧ ∀ I13, I13 = mi_up I10 3 (Int32.toNatClampNeg cn) (I10 9 (Int32.toNatClampNeg 3)) → (vp_in 4 5 ∧ (vp_in cn 40 ∧ ∀ I16, I16 = mi_up I13 4 (Int32.toNatClampNeg cn) (I13 9 (Int32.toNatClampNeg 4)) → (∃ k, wMenter_77 post  k I16 J1 cn cm so cn 0)))))))))))) := h
  refine lv_aload_n hx hb dXM_enter_0 rfl (lv_at hl 0 rfl) ?_
  refine mg_count hx hb hown hts hK hP dXM_enter_1 ?_
  refine lv_istore_n (lv' := [(1, .int cn), (0, .ref h0)]) hx hb dXM_enter_4 rfl hl (by decide) rfl (fun ls hl => ?_)
  refine lv_aload_n hx hb dXM_enter_5 rfl (lv_at hl 1 rfl) ?_
  refine mg_hash hx hb hown hts hK hP dXM_enter_6 ?_
  refine lv_iload_n hx hb dXM_enter_9 rfl (lv_at hl 0 rfl) ?_
  refine lv_aload_n hx hb dXM_enter_10 rfl (lv_at hl 1 rfl) ?_
  refine mg_coming hx hb hown hts hK hP dXM_enter_11 ?_
  obtain ⟨h2, h⟩ := h
  obtain ⟨J1, eJ1⟩ : ∃ y, y = mj_up J 0 (Int32.toNatClampNeg cn) cm := ⟨_, rfl⟩
  replace h := h J1 eJ1
  refine ms_0 hx hb hK hD hP hS h2 dXM_enter_14 (fun H locs hP hS => ?_)
  rw [← eJ1] at hP
  refine lv_aload_n hx hb dXM_enter_15 rfl (lv_at hl 1 rfl) ?_
  refine mg_author hx hb hown hts hK hP dXM_enter_16 ?_
  refine lv_iload_n hx hb dXM_enter_19 rfl (lv_at hl 0 rfl) ?_
  refine lv_aload_n hx hb dXM_enter_20 rfl (lv_at hl 1 rfl) ?_
  refine mg_numbers hx hb hown hts hK hP dXM_enter_21 ?_
  refine lv_iconst (v := 0) hx hb dXM_enter_24 (by decide) ?_
  obtain ⟨h3, h⟩ := h
  refine ma_16 hx hb hK hP h3 dXM_enter_25 ?_
  obtain ⟨h5, h⟩ := h
  obtain ⟨I4, eI4⟩ : ∃ y, y = mi_up I 0 (Int32.toNatClampNeg cn) (I 9 (Int32.toNatClampNeg 0)) := ⟨_, rfl⟩
  replace h := h I4 eI4
  refine ms_1 hx hb hK hD hP hS h5 dXM_enter_26 (fun H locs hP hS => ?_)
  rw [← eI4] at hP
  refine lv_aload_n hx hb dXM_enter_27 rfl (lv_at hl 1 rfl) ?_
  refine mg_kind hx hb hown hts hK hP dXM_enter_28 ?_
  refine lv_iload_n hx hb dXM_enter_31 rfl (lv_at hl 0 rfl) ?_
  refine lv_aload_n hx hb dXM_enter_32 rfl (lv_at hl 1 rfl) ?_
  refine mg_numbers hx hb hown hts hK hP dXM_enter_33 ?_
  refine lv_iconst (v := 1) hx hb dXM_enter_36 (by decide) ?_
  obtain ⟨h6, h⟩ := h
  refine ma_16 hx hb hK hP h6 dXM_enter_37 ?_
  obtain ⟨h8, h⟩ := h
  obtain ⟨I7, eI7⟩ : ∃ y, y = mi_up I4 1 (Int32.toNatClampNeg cn) (I4 9 (Int32.toNatClampNeg 1)) := ⟨_, rfl⟩
  replace h := h I7 eI7
  refine ms_2 hx hb hK hD hP hS h8 dXM_enter_38 (fun H locs hP hS => ?_)
  rw [← eI7] at hP
  refine lv_aload_n hx hb dXM_enter_39 rfl (lv_at hl 1 rfl) ?_
  refine mg_key hx hb hown hts hK hP dXM_enter_40 ?_
  refine lv_iload_n hx hb dXM_enter_43 rfl (lv_at hl 0 rfl) ?_
  refine lv_aload_n hx hb dXM_enter_44 rfl (lv_at hl 1 rfl) ?_
  refine mg_numbers hx hb hown hts hK hP dXM_enter_45 ?_
  refine lv_iconst (v := 2) hx hb dXM_enter_48 (by decide) ?_
  obtain ⟨h9, h⟩ := h
  refine ma_16 hx hb hK hP h9 dXM_enter_49 ?_
  obtain ⟨h11, h⟩ := h
  obtain ⟨I10, eI10⟩ : ∃ y, y = mi_up I7 2 (Int32.toNatClampNeg cn) (I7 9 (Int32.toNatClampNeg 2)) := ⟨_, rfl⟩
  replace h := h I10 eI10
  refine ms_3 hx hb hK hD hP hS h11 dXM_enter_50 (fun H locs hP hS => ?_)
  rw [← eI10] at hP
  refine lv_aload_n hx hb dXM_enter_51 rfl (lv_at hl 1 rfl) ?_
  refine mg_value hx hb hown hts hK hP dXM_enter_52 ?_
  refine lv_iload_n hx hb dXM_enter_55 rfl (lv_at hl 0 rfl) ?_
  refine lv_aload_n hx hb dXM_enter_56 rfl (lv_at hl 1 rfl) ?_
  refine mg_numbers hx hb hown hts hK hP dXM_enter_57 ?_
  refine lv_iconst (v := 3) hx hb dXM_enter_60 (by decide) ?_
  obtain ⟨h12, h⟩ := h
  refine ma_16 hx hb hK hP h12 dXM_enter_61 ?_
  obtain ⟨h14, h⟩ := h
  obtain ⟨I13, eI13⟩ : ∃ y, y = mi_up I10 3 (Int32.toNatClampNeg cn) (I10 9 (Int32.toNatClampNeg 3)) := ⟨_, rfl⟩
  replace h := h I13 eI13
  refine ms_4 hx hb hK hD hP hS h14 dXM_enter_62 (fun H locs hP hS => ?_)
  rw [← eI13] at hP
  refine lv_aload_n hx hb dXM_enter_63 rfl (lv_at hl 1 rfl) ?_
  refine mg_links hx hb hown hts hK hP dXM_enter_64 ?_
  refine lv_iload_n hx hb dXM_enter_67 rfl (lv_at hl 0 rfl) ?_
  refine lv_aload_n hx hb dXM_enter_68 rfl (lv_at hl 1 rfl) ?_
  refine mg_numbers hx hb hown hts hK hP dXM_enter_69 ?_
  refine lv_iconst (v := 4) hx hb dXM_enter_72 (by decide) ?_
  obtain ⟨h15, h⟩ := h
  refine ma_16 hx hb hK hP h15 dXM_enter_73 ?_
  obtain ⟨h17, h⟩ := h
  obtain ⟨I16, eI16⟩ : ∃ y, y = mi_up I13 4 (Int32.toNatClampNeg cn) (I13 9 (Int32.toNatClampNeg 4)) := ⟨_, rfl⟩
  replace h := h I16 eI16
  refine ms_5 hx hb hK hD hP hS h17 dXM_enter_74 (fun H locs hP hS => ?_)
  rw [← eI16] at hP
  refine lv_iconst (v := 0) hx hb dXM_enter_75 (by decide) ?_
  refine lv_istore_n (lv' := [(2, .int 0), (1, .int cn), (0, .ref h0)]) hx hb dXM_enter_76 rfl hl (by decide) rfl (fun ls hl => ?_)
  obtain ⟨k, h⟩ := h
  exact sMenter_77  C0  k I16 J1 cn cm so cn 0 h H locs ls hP hS (lv_sub hl [2, 1, 0] rfl)
set_option maxRecDepth 100000 in
set_option maxHeartbeats 4000000 in
theorem cMenter {l : Launch} {D : va_G} {A : Nat → Prop} {h0 : Nat} {ad : Nat → Nat} {cI cL : ClassId} (hD : mDs A h0 ad cI cL) {post : Int32 → (Nat → Nat → Int32) → (Nat → Nat → Int64) → Int32 → Int64 → Int32 → Prop} {I : Nat → Nat → Int32} {J : Nat → Nat → Int64} {cn : Int32} {cm : Int64} {so : Int32} (h : wMenter post I J cn cm so) : Met l yXM_enter (.code yXM_enter cXM_enter 3 (some .int) :: lg_tbl) ({ frames := 2, cells := 0, slots := 0, locals := 48 } : Room) (va_Pc [.ref h0] (fxB (mW D h0 ad cI cL (I, J, cn, cm, so)) D vwCl (mTy cI cL))) (va_Qi (fun (r : Int32) (u : mS) => post r u.1 u.2.1 u.2.2.1 u.2.2.2.1 u.2.2.2.2) (fxC (mW D h0 ad cI cL)) A) 0 0 A := by
  refine fx_start (by decide +kernel) (Nat.le_of_ble_eq_true rfl) ?_
  intro p e s m below meth c ls hx hb hr hml hown hts hlocks hnm hB hl
  exact sMenter_in ⟨hx, hb, hr, hml, hown, hts, hlocks, hB.2.1, hB.2.2, hD⟩ I J cn cm so h _ _ ls hB.1 va_S.rf hl
noncomputable def wMleave_88 (post : (Nat → Nat → Int32) → (Nat → Nat → Int64) → Int32 → Int64 → Int32 → Prop) (K17 : (Nat → Nat → Int32) → (Nat → Nat → Int64) → Int32 → Int64 → Int32 → Int32 → Int32 → Prop) (n : Nat) : (Nat → Nat → Int32) → (Nat → Nat → Int64) → Int32 → Int64 → Int32 → Int32 → Int32 → Int32 → Prop := Nat.rec (motive := fun _ => (Nat → Nat → Int32) → (Nat → Nat → Int64) → Int32 → Int64 → Int32 → Int32 → Int32 → Int32 → Prop) (fun _ _ _ _ _ _ _ _ => False) (fun _ K88 I J cn cm so v1 v3 v4 => ((4 ≤ v4 → (K17 I J cn cm so v1 (v3 + 1))) ∧ (¬ 4 ≤ v4 → (vp_in (((4 * v3) + 4) + v4) 96 ∧ (vp_in ((4 * v3) + v4) 96 ∧ ∀ J15, J15 = mj_up J 5 (Int32.toNatClampNeg ((4 * v3) + v4)) (J 5 (Int32.toNatClampNeg (((4 * v3) + 4) + v4))) → (K88 I J15 cn cm so v1 v3 (v4 + 1))))))) n
noncomputable def wMleave_49 (post : (Nat → Nat → Int32) → (Nat → Nat → Int64) → Int32 → Int64 → Int32 → Prop) (K17 : (Nat → Nat → Int32) → (Nat → Nat → Int64) → Int32 → Int64 → Int32 → Int32 → Int32 → Prop) (n : Nat) : (Nat → Nat → Int32) → (Nat → Nat → Int64) → Int32 → Int64 → Int32 → Int32 → Int32 → Int32 → Prop := Nat.rec (motive := fun _ => (Nat → Nat → Int32) → (Nat → Nat → Int64) → Int32 → Int64 → Int32 → Int32 → Int32 → Int32 → Prop) (fun _ _ _ _ _ _ _ _ => False) (fun _ K49 I J cn cm so v1 v3 v4 => ((5 ≤ v4 → (∃ k, wMleave_88 post K17 k I J cn cm so v1 v3 0)) ∧ (¬ 5 ≤ v4 → (vp_in (((5 * v3) + 5) + v4) 120 ∧ (vp_in ((5 * v3) + v4) 120 ∧ ∀ I11, I11 = mi_up I 7 (Int32.toNatClampNeg ((5 * v3) + v4)) (I 7 (Int32.toNatClampNeg (((5 * v3) + 5) + v4))) → (K49 I11 J cn cm so v1 v3 (v4 + 1))))))) n
noncomputable def wMleave_17 (post : (Nat → Nat → Int32) → (Nat → Nat → Int64) → Int32 → Int64 → Int32 → Prop) (n : Nat) : (Nat → Nat → Int32) → (Nat → Nat → Int64) → Int32 → Int64 → Int32 → Int32 → Int32 → Prop := Nat.rec (motive := fun _ => (Nat → Nat → Int32) → (Nat → Nat → Int64) → Int32 → Int64 → Int32 → Int32 → Int32 → Prop) (fun _ _ _ _ _ _ _ => False) (fun _ K17 I J cn cm so v1 v3 => (vp_in v1 4 ∧ ((((6 * v1) + (I 6 (Int32.toNatClampNeg v1))) ≤ v3 → (post I J cn cm so)) ∧ (¬ ((6 * v1) + (I 6 (Int32.toNatClampNeg v1))) ≤ v3 → (vp_in (v3 + 1) 24 ∧ (vp_in v3 24 ∧ ∀ J7, J7 = mj_up J 4 (Int32.toNatClampNeg v3) (J 4 (Int32.toNatClampNeg (v3 + 1))) → (∃ k, wMleave_49 post K17 k I J7 cn cm so v1 v3 0))))))) n
def wMleave (post : (Nat → Nat → Int32) → (Nat → Nat → Int64) → Int32 → Int64 → Int32 → Prop) (I : Nat → Nat → Int32) (J : Nat → Nat → Int64) (cn : Int32) (cm : Int64) (so : Int32) (a1 : Int32) (a2 : Int32) : Prop := (vp_in a1 4 ∧ (vp_in a1 4 ∧ ∀ I2, I2 = mi_up I 6 (Int32.toNatClampNeg a1) ((I 6 (Int32.toNatClampNeg a1)) - 1) → (∃ k, wMleave_17 post  k I2 J cn cm so a1 ((6 * a1) + a2))))
set_option maxRecDepth 100000 in
set_option maxHeartbeats 4000000 in
theorem sMleave_88 {p : Program} {l : Launch} {e : Env} {s : State} {m : MethodId} {args : Array Value} {below : List Frame} {meth : Method} {c : Code} {D : va_G} {A : Nat → Prop} {h0 : Nat} {ad : Nat → Nat} {cI cL : ClassId} {post : (Nat → Nat → Int32) → (Nat → Nat → Int64) → Int32 → Int64 → Int32 → Prop} (C0 : mCx p s m args meth c D A h0 ad cI cL cXM_leave 5 none) {K17 : (Nat → Nat → Int32) → (Nat → Nat → Int64) → Int32 → Int64 → Int32 → Int32 → Int32 → Prop} (hK17 : ∀ (I : Nat → Nat → Int32) (J : Nat → Nat → Int64) (cn : Int32) (cm : Int64) (so : Int32) (v1 : Int32) (v3 : Int32), K17 I J cn cm so v1 v3 → ∀ (H : Heap) (locs : List Loc) (ls : Array Slot), mW D h0 ad cI cL (I, J, cn, cm, so) H → va_S A s.heap H locs → lv_has ls 5 [(0, .ref h0), (1, .int v1), (3, .int v3)] → W p l e ({ frames := 0, cells := 0, slots := 0, locals := 0 } : Room) s m args below meth c H locs 0 0 (MQ below (va_Qv (fun (u : mS) => post u.1 u.2.1 u.2.2.1 u.2.2.2.1 u.2.2.2.2) (fxC (mW D h0 ad cI cL)) A) args s 0 0 A) (F0 m 17 ls [])) : ∀ (n : Nat) (I : Nat → Nat → Int32) (J : Nat → Nat → Int64) (cn : Int32) (cm : Int64) (so : Int32) (v1 : Int32) (v3 : Int32) (v4 : Int32), wMleave_88 post K17 n I J cn cm so v1 v3 v4 → ∀ (H : Heap) (locs : List Loc) (ls : Array Slot), mW D h0 ad cI cL (I, J, cn, cm, so) H → va_S A s.heap H locs → lv_has ls 5 [(0, .ref h0), (1, .int v1), (3, .int v3), (4, .int v4)] → W p l e ({ frames := 0, cells := 0, slots := 0, locals := 0 } : Room) s m args below meth c H locs 0 0 (MQ below (va_Qv (fun (u : mS) => post u.1 u.2.1 u.2.2.1 u.2.2.2.1 u.2.2.2.2) (fxC (mW D h0 ad cI cL)) A) args s 0 0 A) (F0 m 88 ls []) := by
  obtain ⟨hx, hb, hr, hml, hown, hts, hlocks, hK, hN, hD⟩ := id C0
  intro n
  induction n with
  | zero => exact fun _ _ _ _ _ _ _ _ h => h.elim
  | succ n hK88 =>
    intro I J cn cm so v1 v3 v4 h H locs ls hP hS hl
    replace h : ((4 ≤ v4 → (K17 I J cn cm so v1 (v3 + 1))) ∧ (¬ 4 ≤ v4 → (vp_in (((4 * v3) + 4) + v4) 96 ∧ (vp_in ((4 * v3) + v4) 96 ∧ ∀ J15, J15 = mj_up J 5 (Int32.toNatClampNeg ((4 * v3) + v4)) (J 5 (Int32.toNatClampNeg (((4 * v3) + 4) + v4))) → ((wMleave_88 post K17 n) I J15 cn cm so v1 v3 (v4 + 1)))))) := h
    refine lv_iload hx hb dXM_leave_88 (lv_at hl 3 rfl) ?_
    refine lv_iconst (v := 4) hx hb dXM_leave_90 (by decide) ?_
    refine lv_icmp_ge (tgt := 124) hx hb dXM_leave_91 (by decide) (fun c13 => ?_) (fun c13 => ?_)
    · replace h := h.1 c13
      refine lv_iinc (v := v3 + 1) (lv' := [(3, .int (v3 + 1)), (0, .ref h0), (1, .int v1), (4, .int v4)]) hx hb dXM_leave_124 hl (k := 2) rfl rfl (by decide) rfl (fun ls hl => ?_)
      refine lv_goto (tgt := 17) hx hb dXM_leave_127 (by decide) ?_
      exact hK17 I J cn cm so v1 (v3 + 1) h H locs ls hP hS (lv_sub hl [1, 2, 0] rfl)
    · replace h := h.2 c13
      refine lv_aload_n hx hb dXM_leave_94 rfl (lv_at hl 0 rfl) ?_
      refine mg_waitLink hx hb hown hts hK hP dXM_leave_95 ?_
      refine lv_iconst (v := 4) hx hb dXM_leave_98 (by decide) ?_
      refine lv_iload_n hx hb dXM_leave_99 rfl (lv_at hl 2 rfl) ?_
      refine lv_imul hx hb dXM_leave_100 ?_
      refine lv_iload hx hb dXM_leave_101 (lv_at hl 3 rfl) ?_
      refine lv_iadd hx hb dXM_leave_103 ?_
      refine lv_aload_n hx hb dXM_leave_104 rfl (lv_at hl 0 rfl) ?_
      refine mg_waitLink hx hb hown hts hK hP dXM_leave_105 ?_
      refine lv_iconst (v := 4) hx hb dXM_leave_108 (by decide) ?_
      refine lv_iload_n hx hb dXM_leave_109 rfl (lv_at hl 2 rfl) ?_
      refine lv_imul hx hb dXM_leave_110 ?_
      refine lv_iconst (v := 4) hx hb dXM_leave_111 (by decide) ?_
      refine lv_iadd hx hb dXM_leave_112 ?_
      refine lv_iload hx hb dXM_leave_113 (lv_at hl 3 rfl) ?_
      refine lv_iadd hx hb dXM_leave_115 ?_
      obtain ⟨h14, h⟩ := h
      refine ma_13 hx hb hK hP h14 dXM_leave_116 ?_
      obtain ⟨h16, h⟩ := h
      obtain ⟨J15, eJ15⟩ : ∃ y, y = mj_up J 5 (Int32.toNatClampNeg ((4 * v3) + v4)) (J 5 (Int32.toNatClampNeg (((4 * v3) + 4) + v4))) := ⟨_, rfl⟩
      replace h := h J15 eJ15
      refine ms_13 hx hb hK hD hP hS h16 dXM_leave_117 (fun H locs hP hS => ?_)
      rw [← eJ15] at hP
      refine lv_iinc (v := v4 + 1) (lv' := [(4, .int (v4 + 1)), (0, .ref h0), (1, .int v1), (3, .int v3)]) hx hb dXM_leave_118 hl (k := 3) rfl rfl (by decide) rfl (fun ls hl => ?_)
      refine lv_goto (tgt := 88) hx hb dXM_leave_121 (by decide) ?_
      exact hK88 I J15 cn cm so v1 v3 (v4 + 1) h H locs ls hP hS (lv_sub hl [1, 2, 3, 0] rfl)
set_option maxRecDepth 100000 in
set_option maxHeartbeats 4000000 in
theorem sMleave_49 {p : Program} {l : Launch} {e : Env} {s : State} {m : MethodId} {args : Array Value} {below : List Frame} {meth : Method} {c : Code} {D : va_G} {A : Nat → Prop} {h0 : Nat} {ad : Nat → Nat} {cI cL : ClassId} {post : (Nat → Nat → Int32) → (Nat → Nat → Int64) → Int32 → Int64 → Int32 → Prop} (C0 : mCx p s m args meth c D A h0 ad cI cL cXM_leave 5 none) {K17 : (Nat → Nat → Int32) → (Nat → Nat → Int64) → Int32 → Int64 → Int32 → Int32 → Int32 → Prop} (hK17 : ∀ (I : Nat → Nat → Int32) (J : Nat → Nat → Int64) (cn : Int32) (cm : Int64) (so : Int32) (v1 : Int32) (v3 : Int32), K17 I J cn cm so v1 v3 → ∀ (H : Heap) (locs : List Loc) (ls : Array Slot), mW D h0 ad cI cL (I, J, cn, cm, so) H → va_S A s.heap H locs → lv_has ls 5 [(0, .ref h0), (1, .int v1), (3, .int v3)] → W p l e ({ frames := 0, cells := 0, slots := 0, locals := 0 } : Room) s m args below meth c H locs 0 0 (MQ below (va_Qv (fun (u : mS) => post u.1 u.2.1 u.2.2.1 u.2.2.2.1 u.2.2.2.2) (fxC (mW D h0 ad cI cL)) A) args s 0 0 A) (F0 m 17 ls [])) : ∀ (n : Nat) (I : Nat → Nat → Int32) (J : Nat → Nat → Int64) (cn : Int32) (cm : Int64) (so : Int32) (v1 : Int32) (v3 : Int32) (v4 : Int32), wMleave_49 post K17 n I J cn cm so v1 v3 v4 → ∀ (H : Heap) (locs : List Loc) (ls : Array Slot), mW D h0 ad cI cL (I, J, cn, cm, so) H → va_S A s.heap H locs → lv_has ls 5 [(0, .ref h0), (1, .int v1), (3, .int v3), (4, .int v4)] → W p l e ({ frames := 0, cells := 0, slots := 0, locals := 0 } : Room) s m args below meth c H locs 0 0 (MQ below (va_Qv (fun (u : mS) => post u.1 u.2.1 u.2.2.1 u.2.2.2.1 u.2.2.2.2) (fxC (mW D h0 ad cI cL)) A) args s 0 0 A) (F0 m 49 ls []) := by
  obtain ⟨hx, hb, hr, hml, hown, hts, hlocks, hK, hN, hD⟩ := id C0
  intro n
  induction n with
  | zero => exact fun _ _ _ _ _ _ _ _ h => h.elim
  | succ n hK49 =>
    intro I J cn cm so v1 v3 v4 h H locs ls hP hS hl
    replace h : ((5 ≤ v4 → (∃ k, wMleave_88 post K17 k I J cn cm so v1 v3 0)) ∧ (¬ 5 ≤ v4 → (vp_in (((5 * v3) + 5) + v4) 120 ∧ (vp_in ((5 * v3) + v4) 120 ∧ ∀ I11, I11 = mi_up I 7 (Int32.toNatClampNeg ((5 * v3) + v4)) (I 7 (Int32.toNatClampNeg (((5 * v3) + 5) + v4))) → ((wMleave_49 post K17 n) I11 J cn cm so v1 v3 (v4 + 1)))))) := h
    refine lv_iload hx hb dXM_leave_49 (lv_at hl 3 rfl) ?_
    refine lv_iconst (v := 5) hx hb dXM_leave_51 (by decide) ?_
    refine lv_icmp_ge (tgt := 85) hx hb dXM_leave_52 (by decide) (fun c9 => ?_) (fun c9 => ?_)
    · replace h := h.1 c9
      refine lv_iconst (v := 0) hx hb dXM_leave_85 (by decide) ?_
      refine lv_istore (lv' := [(4, .int 0), (0, .ref h0), (1, .int v1), (3, .int v3)]) hx hb dXM_leave_86 hl (by decide) rfl (fun ls hl => ?_)
      obtain ⟨k, h⟩ := h
      exact sMleave_88  C0 hK17 k I J cn cm so v1 v3 0 h H locs ls hP hS (lv_sub hl [1, 2, 3, 0] rfl)
    · replace h := h.2 c9
      refine lv_aload_n hx hb dXM_leave_55 rfl (lv_at hl 0 rfl) ?_
      refine mg_waitNumbers hx hb hown hts hK hP dXM_leave_56 ?_
      refine lv_iconst (v := 5) hx hb dXM_leave_59 (by decide) ?_
      refine lv_iload_n hx hb dXM_leave_60 rfl (lv_at hl 2 rfl) ?_
      refine lv_imul hx hb dXM_leave_61 ?_
      refine lv_iload hx hb dXM_leave_62 (lv_at hl 3 rfl) ?_
      refine lv_iadd hx hb dXM_leave_64 ?_
      refine lv_aload_n hx hb dXM_leave_65 rfl (lv_at hl 0 rfl) ?_
      refine mg_waitNumbers hx hb hown hts hK hP dXM_leave_66 ?_
      refine lv_iconst (v := 5) hx hb dXM_leave_69 (by decide) ?_
      refine lv_iload_n hx hb dXM_leave_70 rfl (lv_at hl 2 rfl) ?_
      refine lv_imul hx hb dXM_leave_71 ?_
      refine lv_iconst (v := 5) hx hb dXM_leave_72 (by decide) ?_
      refine lv_iadd hx hb dXM_leave_73 ?_
      refine lv_iload hx hb dXM_leave_74 (lv_at hl 3 rfl) ?_
      refine lv_iadd hx hb dXM_leave_76 ?_
      obtain ⟨h10, h⟩ := h
      refine ma_12 hx hb hK hP h10 dXM_leave_77 ?_
      obtain ⟨h12, h⟩ := h
      obtain ⟨I11, eI11⟩ : ∃ y, y = mi_up I 7 (Int32.toNatClampNeg ((5 * v3) + v4)) (I 7 (Int32.toNatClampNeg (((5 * v3) + 5) + v4))) := ⟨_, rfl⟩
      replace h := h I11 eI11
      refine ms_12 hx hb hK hD hP hS h12 dXM_leave_78 (fun H locs hP hS => ?_)
      rw [← eI11] at hP
      refine lv_iinc (v := v4 + 1) (lv' := [(4, .int (v4 + 1)), (0, .ref h0), (1, .int v1), (3, .int v3)]) hx hb dXM_leave_79 hl (k := 3) rfl rfl (by decide) rfl (fun ls hl => ?_)
      refine lv_goto (tgt := 49) hx hb dXM_leave_82 (by decide) ?_
      exact hK49 I11 J cn cm so v1 v3 (v4 + 1) h H locs ls hP hS (lv_sub hl [1, 2, 3, 0] rfl)
set_option maxRecDepth 100000 in
set_option maxHeartbeats 4000000 in
theorem sMleave_17 {p : Program} {l : Launch} {e : Env} {s : State} {m : MethodId} {args : Array Value} {below : List Frame} {meth : Method} {c : Code} {D : va_G} {A : Nat → Prop} {h0 : Nat} {ad : Nat → Nat} {cI cL : ClassId} {post : (Nat → Nat → Int32) → (Nat → Nat → Int64) → Int32 → Int64 → Int32 → Prop} (C0 : mCx p s m args meth c D A h0 ad cI cL cXM_leave 5 none) : ∀ (n : Nat) (I : Nat → Nat → Int32) (J : Nat → Nat → Int64) (cn : Int32) (cm : Int64) (so : Int32) (v1 : Int32) (v3 : Int32), wMleave_17 post  n I J cn cm so v1 v3 → ∀ (H : Heap) (locs : List Loc) (ls : Array Slot), mW D h0 ad cI cL (I, J, cn, cm, so) H → va_S A s.heap H locs → lv_has ls 5 [(0, .ref h0), (1, .int v1), (3, .int v3)] → W p l e ({ frames := 0, cells := 0, slots := 0, locals := 0 } : Room) s m args below meth c H locs 0 0 (MQ below (va_Qv (fun (u : mS) => post u.1 u.2.1 u.2.2.1 u.2.2.2.1 u.2.2.2.2) (fxC (mW D h0 ad cI cL)) A) args s 0 0 A) (F0 m 17 ls []) := by
  obtain ⟨hx, hb, hr, hml, hown, hts, hlocks, hK, hN, hD⟩ := id C0
  intro n
  induction n with
  | zero => exact fun _ _ _ _ _ _ _ h => h.elim
  | succ n hK17 =>
    intro I J cn cm so v1 v3 h H locs ls hP hS hl
    replace h : (vp_in v1 4 ∧ ((((6 * v1) + (I 6 (Int32.toNatClampNeg v1))) ≤ v3 → (post I J cn cm so)) ∧ (¬ ((6 * v1) + (I 6 (Int32.toNatClampNeg v1))) ≤ v3 → (vp_in (v3 + 1) 24 ∧ (vp_in v3 24 ∧ ∀ J7, J7 = mj_up J 4 (Int32.toNatClampNeg v3) (J 4 (Int32.toNatClampNeg (v3 + 1))) → (∃ k, wMleave_49 post (wMleave_17 post  n) k I J7 cn cm so v1 v3 0)))))) := h
    refine lv_iload_n hx hb dXM_leave_17 rfl (lv_at hl 2 rfl) ?_
    refine lv_bipush (v := 6) hx hb dXM_leave_18 (by decide) ?_
    refine lv_iload_n hx hb dXM_leave_20 rfl (lv_at hl 1 rfl) ?_
    refine lv_imul hx hb dXM_leave_21 ?_
    refine lv_aload_n hx hb dXM_leave_22 rfl (lv_at hl 0 rfl) ?_
    refine mg_waits hx hb hown hts hK hP dXM_leave_23 ?_
    refine lv_iload_n hx hb dXM_leave_26 rfl (lv_at hl 1 rfl) ?_
    obtain ⟨h4, h⟩ := h
    refine ma_10 hx hb hK hP h4 dXM_leave_27 ?_
    refine lv_iadd hx hb dXM_leave_28 ?_
    refine lv_icmp_ge (tgt := 130) hx hb dXM_leave_29 (by decide) (fun c5 => ?_) (fun c5 => ?_)
    · replace h := h.1 c5
      exact W.vret hx hb hr (fun t ht hW => ⟨⟨(I, J, cn, cm, so), rfl, h, by rw [fxC, ht]; exact hP⟩, hS.F ht⟩) hS.2.2 dXM_leave_130 hlocks
    · replace h := h.2 c5
      refine lv_aload_n hx hb dXM_leave_32 rfl (lv_at hl 0 rfl) ?_
      refine mg_waitHash hx hb hown hts hK hP dXM_leave_33 ?_
      refine lv_iload_n hx hb dXM_leave_36 rfl (lv_at hl 2 rfl) ?_
      refine lv_aload_n hx hb dXM_leave_37 rfl (lv_at hl 0 rfl) ?_
      refine mg_waitHash hx hb hown hts hK hP dXM_leave_38 ?_
      refine lv_iload_n hx hb dXM_leave_41 rfl (lv_at hl 2 rfl) ?_
      refine lv_iconst (v := 1) hx hb dXM_leave_42 (by decide) ?_
      refine lv_iadd hx hb dXM_leave_43 ?_
      obtain ⟨h6, h⟩ := h
      refine ma_11 hx hb hK hP h6 dXM_leave_44 ?_
      obtain ⟨h8, h⟩ := h
      obtain ⟨J7, eJ7⟩ : ∃ y, y = mj_up J 4 (Int32.toNatClampNeg v3) (J 4 (Int32.toNatClampNeg (v3 + 1))) := ⟨_, rfl⟩
      replace h := h J7 eJ7
      refine ms_11 hx hb hK hD hP hS h8 dXM_leave_45 (fun H locs hP hS => ?_)
      rw [← eJ7] at hP
      refine lv_iconst (v := 0) hx hb dXM_leave_46 (by decide) ?_
      refine lv_istore (lv' := [(4, .int 0), (0, .ref h0), (1, .int v1), (3, .int v3)]) hx hb dXM_leave_47 hl (by decide) rfl (fun ls hl => ?_)
      obtain ⟨k, h⟩ := h
      exact sMleave_49  C0 hK17 k I J7 cn cm so v1 v3 0 h H locs ls hP hS (lv_sub hl [1, 2, 3, 0] rfl)
set_option maxRecDepth 100000 in
set_option maxHeartbeats 4000000 in
theorem sMleave_in {p : Program} {l : Launch} {e : Env} {s : State} {m : MethodId} {args : Array Value} {below : List Frame} {meth : Method} {c : Code} {D : va_G} {A : Nat → Prop} {h0 : Nat} {ad : Nat → Nat} {cI cL : ClassId} {post : (Nat → Nat → Int32) → (Nat → Nat → Int64) → Int32 → Int64 → Int32 → Prop} (C0 : mCx p s m args meth c D A h0 ad cI cL cXM_leave 5 none) : ∀ (I : Nat → Nat → Int32) (J : Nat → Nat → Int64) (cn : Int32) (cm : Int64) (so : Int32) (a1 : Int32) (a2 : Int32), wMleave post I J cn cm so a1 a2 → ∀ (H : Heap) (locs : List Loc) (ls : Array Slot), mW D h0 ad cI cL (I, J, cn, cm, so) H → va_S A s.heap H locs → lv_has ls 5 [(0, .ref h0), (1, .int a1), (2, .int a2)] → W p l e ({ frames := 0, cells := 0, slots := 0, locals := 0 } : Room) s m args below meth c H locs 0 0 (MQ below (va_Qv (fun (u : mS) => post u.1 u.2.1 u.2.2.1 u.2.2.2.1 u.2.2.2.2) (fxC (mW D h0 ad cI cL)) A) args s 0 0 A) (F0 m 0 ls []) := by
  obtain ⟨hx, hb, hr, hml, hown, hts, hlocks, hK, hN, hD⟩ := id C0
  intro I J cn cm so a1 a2 h H locs ls hP hS hl
  replace h : (vp_in a1 4 ∧ (vp_in a1 4 ∧ ∀ I2, I2 = mi_up I 6 (Int32.toNatClampNeg a1) ((I 6 (Int32.toNatClampNeg a1)) - 1) → (∃ k, wMleave_17 post  k I2 J cn cm so a1 ((6 * a1) + a2)))) := h
  refine lv_aload_n hx hb dXM_leave_0 rfl (lv_at hl 0 rfl) ?_
  refine mg_waits hx hb hown hts hK hP dXM_leave_1 ?_
  refine lv_iload_n hx hb dXM_leave_4 rfl (lv_at hl 1 rfl) ?_
  refine lv_dup2_11 hx hb dXM_leave_5 rfl rfl ?_
  obtain ⟨h1, h⟩ := h
  refine ma_10 hx hb hK hP h1 dXM_leave_6 ?_
  refine lv_iconst (v := 1) hx hb dXM_leave_7 (by decide) ?_
  refine lv_isub hx hb dXM_leave_8 ?_
  obtain ⟨h3, h⟩ := h
  obtain ⟨I2, eI2⟩ : ∃ y, y = mi_up I 6 (Int32.toNatClampNeg a1) ((I 6 (Int32.toNatClampNeg a1)) - 1) := ⟨_, rfl⟩
  replace h := h I2 eI2
  refine ms_10 hx hb hK hD hP hS h3 dXM_leave_9 (fun H locs hP hS => ?_)
  rw [← eI2] at hP
  refine lv_bipush (v := 6) hx hb dXM_leave_10 (by decide) ?_
  refine lv_iload_n hx hb dXM_leave_12 rfl (lv_at hl 1 rfl) ?_
  refine lv_imul hx hb dXM_leave_13 ?_
  refine lv_iload_n hx hb dXM_leave_14 rfl (lv_at hl 2 rfl) ?_
  refine lv_iadd hx hb dXM_leave_15 ?_
  refine lv_istore_n (lv' := [(3, .int ((6 * a1) + a2)), (0, .ref h0), (1, .int a1), (2, .int a2)]) hx hb dXM_leave_16 rfl hl (by decide) rfl (fun ls hl => ?_)
  obtain ⟨k, h⟩ := h
  exact sMleave_17  C0  k I2 J cn cm so a1 ((6 * a1) + a2) h H locs ls hP hS (lv_sub hl [1, 2, 0] rfl)
set_option maxRecDepth 100000 in
set_option maxHeartbeats 4000000 in
theorem cMleave {l : Launch} {D : va_G} {A : Nat → Prop} {h0 : Nat} {ad : Nat → Nat} {cI cL : ClassId} (hD : mDs A h0 ad cI cL) {post : (Nat → Nat → Int32) → (Nat → Nat → Int64) → Int32 → Int64 → Int32 → Prop} {I : Nat → Nat → Int32} {J : Nat → Nat → Int64} {cn : Int32} {cm : Int64} {so : Int32} {a1 : Int32} {a2 : Int32} (h : wMleave post I J cn cm so a1 a2) : Met l yXM_leave (.code yXM_leave cXM_leave 5 none :: lg_tbl) ({ frames := 0, cells := 0, slots := 0, locals := 0 } : Room) (va_Pc [.ref h0, .int a1, .int a2] (fxB (mW D h0 ad cI cL (I, J, cn, cm, so)) D vwCl (mTy cI cL))) (va_Qv (fun (u : mS) => post u.1 u.2.1 u.2.2.1 u.2.2.2.1 u.2.2.2.2) (fxC (mW D h0 ad cI cL)) A) 0 0 A := by
  refine fx_start (by decide +kernel) (Nat.le_of_ble_eq_true rfl) ?_
  intro p e s m below meth c ls hx hb hr hml hown hts hlocks hnm hB hl
  exact sMleave_in ⟨hx, hb, hr, hml, hown, hts, hlocks, hB.2.1, hB.2.2, hD⟩ I J cn cm so a1 a2 h _ _ ls hB.1 va_S.rf hl
noncomputable def wMwaitAt_112 (post : (Nat → Nat → Int32) → (Nat → Nat → Int64) → Int32 → Int64 → Int32 → Prop) (n : Nat) : (Nat → Nat → Int32) → (Nat → Nat → Int64) → Int32 → Int64 → Int32 → Int32 → Int32 → Int32 → Prop := Nat.rec (motive := fun _ => (Nat → Nat → Int32) → (Nat → Nat → Int64) → Int32 → Int64 → Int32 → Int32 → Int32 → Int32 → Prop) (fun _ _ _ _ _ _ _ _ => False) (fun _ K112 I J cn cm so v1 v3 v4 => ((4 ≤ v4 → (vp_in v1 4 ∧ (vp_in v1 4 ∧ ∀ I17, I17 = mi_up I 6 (Int32.toNatClampNeg v1) ((I 6 (Int32.toNatClampNeg v1)) + 1) → (vp_in v1 4 ∧ ((¬ (I17 6 (Int32.toNatClampNeg v1)) = 6 → (post I17 J cn cm so)) ∧ ((I17 6 (Int32.toNatClampNeg v1)) = 6 → (wMleave (fun I_21 J_21 cn_21 cm_21 so_21 => (post I_21 J_21 cn_21 cm_21 so_21)) I17 J cn cm so v1 0))))))) ∧ (¬ 4 ≤ v4 → (vp_in v4 4 ∧ (vp_in ((4 * v3) + v4) 96 ∧ ∀ J23, J23 = mj_up J 5 (Int32.toNatClampNeg ((4 * v3) + v4)) (J 7 (Int32.toNatClampNeg v4)) → (K112 I J23 cn cm so v1 v3 (v4 + 1))))))) n
noncomputable def wMwaitAt_79 (post : (Nat → Nat → Int32) → (Nat → Nat → Int64) → Int32 → Int64 → Int32 → Prop) (n : Nat) : (Nat → Nat → Int32) → (Nat → Nat → Int64) → Int32 → Int64 → Int32 → Int32 → Int32 → Int32 → Prop := Nat.rec (motive := fun _ => (Nat → Nat → Int32) → (Nat → Nat → Int64) → Int32 → Int64 → Int32 → Int32 → Int32 → Int32 → Prop) (fun _ _ _ _ _ _ _ _ => False) (fun _ K79 I J cn cm so v1 v3 v4 => ((5 ≤ v4 → (∃ k, wMwaitAt_112 post  k I J cn cm so v1 v3 0)) ∧ (¬ 5 ≤ v4 → (vp_in v4 5 ∧ (vp_in ((5 * v3) + v4) 120 ∧ ∀ I13, I13 = mi_up I 7 (Int32.toNatClampNeg ((5 * v3) + v4)) (I 9 (Int32.toNatClampNeg v4)) → (K79 I13 J cn cm so v1 v3 (v4 + 1))))))) n
noncomputable def wMwaitAt_4 (post : (Nat → Nat → Int32) → (Nat → Nat → Int64) → Int32 → Int64 → Int32 → Prop) (n : Nat) : (Nat → Nat → Int32) → (Nat → Nat → Int64) → Int32 → Int64 → Int32 → Int32 → Int32 → Int32 → Prop := Nat.rec (motive := fun _ => (Nat → Nat → Int32) → (Nat → Nat → Int64) → Int32 → Int64 → Int32 → Int32 → Int32 → Int32 → Prop) (fun _ _ _ _ _ _ _ _ => False) (fun _ K4 I J cn cm so v1 v2 v3 => (vp_in v1 4 ∧ (((I 6 (Int32.toNatClampNeg v1)) ≤ v3 → ((v2 = 0 → (vp_in v1 4 ∧ ∀ x5, x5 = (6 * v1) + (I 6 (Int32.toNatClampNeg v1)) → (vp_in x5 24 ∧ ∀ J6, J6 = mj_up J 4 (Int32.toNatClampNeg x5) cm → (∃ k, wMwaitAt_79 post  k I J6 cn cm so v1 x5 0)))) ∧ (¬ v2 = 0 → (post I J cn cm so)))) ∧ (¬ (I 6 (Int32.toNatClampNeg v1)) ≤ v3 → ((¬ v2 = 0 → (K4 I J cn cm so v1 1 (v3 + 1))) ∧ (v2 = 0 → (vp_in ((6 * v1) + v3) 24 ∧ ((¬ (lg_cmp (J 4 (Int32.toNatClampNeg ((6 * v1) + v3))) cm) = 0 → (K4 I J cn cm so v1 0 (v3 + 1))) ∧ ((lg_cmp (J 4 (Int32.toNatClampNeg ((6 * v1) + v3))) cm) = 0 → (K4 I J cn cm so v1 1 (v3 + 1))))))))))) n
def wMwaitAt (post : (Nat → Nat → Int32) → (Nat → Nat → Int64) → Int32 → Int64 → Int32 → Prop) (I : Nat → Nat → Int32) (J : Nat → Nat → Int64) (cn : Int32) (cm : Int64) (so : Int32) (a1 : Int32) : Prop := (∃ k, wMwaitAt_4 post  k I J cn cm so a1 0 0)
set_option maxRecDepth 100000 in
set_option maxHeartbeats 4000000 in
theorem sMwaitAt_112 {p : Program} {l : Launch} {e : Env} {s : State} {m : MethodId} {args : Array Value} {below : List Frame} {meth : Method} {c : Code} {D : va_G} {A : Nat → Prop} {h0 : Nat} {ad : Nat → Nat} {cI cL : ClassId} {post : (Nat → Nat → Int32) → (Nat → Nat → Int64) → Int32 → Int64 → Int32 → Prop} (C0 : mCx p s m args meth c D A h0 ad cI cL cXM_waitAt 5 none) : ∀ (n : Nat) (I : Nat → Nat → Int32) (J : Nat → Nat → Int64) (cn : Int32) (cm : Int64) (so : Int32) (v1 : Int32) (v3 : Int32) (v4 : Int32), wMwaitAt_112 post  n I J cn cm so v1 v3 v4 → ∀ (H : Heap) (locs : List Loc) (ls : Array Slot), mW D h0 ad cI cL (I, J, cn, cm, so) H → va_S A s.heap H locs → lv_has ls 5 [(0, .ref h0), (1, .int v1), (3, .int v3), (4, .int v4)] → W p l e ({ frames := 1, cells := 0, slots := 0, locals := 24 } : Room) s m args below meth c H locs 0 0 (MQ below (va_Qv (fun (u : mS) => post u.1 u.2.1 u.2.2.1 u.2.2.2.1 u.2.2.2.2) (fxC (mW D h0 ad cI cL)) A) args s 0 0 A) (F0 m 112 ls []) := by
  obtain ⟨hx, hb, hr, hml, hown, hts, hlocks, hK, hN, hD⟩ := id C0
  intro n
  induction n with
  | zero => exact fun _ _ _ _ _ _ _ _ h => h.elim
  | succ n hK112 =>
    intro I J cn cm so v1 v3 v4 h H locs ls hP hS hl
    replace h : ((4 ≤ v4 → (vp_in v1 4 ∧ (vp_in v1 4 ∧ ∀ I17, I17 = mi_up I 6 (Int32.toNatClampNeg v1) ((I 6 (Int32.toNatClampNeg v1)) + 1) → (vp_in v1 4 ∧ ((¬ (I17 6 (Int32.toNatClampNeg v1)) = 6 → (post I17 J cn cm so)) ∧ ((I17 6 (Int32.toNatClampNeg v1)) = 6 → (wMleave (fun I_21 J_21 cn_21 cm_21 so_21 => (post I_21 J_21 cn_21 cm_21 so_21)) I17 J cn cm so v1 0))))))) ∧ (¬ 4 ≤ v4 → (vp_in v4 4 ∧ (vp_in ((4 * v3) + v4) 96 ∧ ∀ J23, J23 = mj_up J 5 (Int32.toNatClampNeg ((4 * v3) + v4)) (J 7 (Int32.toNatClampNeg v4)) → ((wMwaitAt_112 post  n) I J23 cn cm so v1 v3 (v4 + 1)))))) := h
    refine lv_iload hx hb dXM_waitAt_112 (lv_at hl 3 rfl) ?_
    refine lv_iconst (v := 4) hx hb dXM_waitAt_114 (by decide) ?_
    refine lv_icmp_ge (tgt := 142) hx hb dXM_waitAt_115 (by decide) (fun c15 => ?_) (fun c15 => ?_)
    · replace h := h.1 c15
      refine lv_aload_n hx hb dXM_waitAt_142 rfl (lv_at hl 0 rfl) ?_
      refine mg_waits hx hb hown hts hK hP dXM_waitAt_143 ?_
      refine lv_iload_n hx hb dXM_waitAt_146 rfl (lv_at hl 1 rfl) ?_
      refine lv_dup2_11 hx hb dXM_waitAt_147 rfl rfl ?_
      obtain ⟨h16, h⟩ := h
      refine ma_10 hx hb hK hP h16 dXM_waitAt_148 ?_
      refine lv_iconst (v := 1) hx hb dXM_waitAt_149 (by decide) ?_
      refine lv_iadd hx hb dXM_waitAt_150 ?_
      obtain ⟨h18, h⟩ := h
      obtain ⟨I17, eI17⟩ : ∃ y, y = mi_up I 6 (Int32.toNatClampNeg v1) ((I 6 (Int32.toNatClampNeg v1)) + 1) := ⟨_, rfl⟩
      replace h := h I17 eI17
      refine ms_10 hx hb hK hD hP hS h18 dXM_waitAt_151 (fun H locs hP hS => ?_)
      rw [← eI17] at hP
      refine lv_aload_n hx hb dXM_waitAt_152 rfl (lv_at hl 0 rfl) ?_
      refine mg_waits hx hb hown hts hK hP dXM_waitAt_153 ?_
      refine lv_iload_n hx hb dXM_waitAt_156 rfl (lv_at hl 1 rfl) ?_
      obtain ⟨h19, h⟩ := h
      refine ma_10 hx hb hK hP h19 dXM_waitAt_157 ?_
      refine lv_bipush (v := 6) hx hb dXM_waitAt_158 (by decide) ?_
      refine lv_icmp_ne (tgt := 169) hx hb dXM_waitAt_160 (by decide) (fun c20 => ?_) (fun c20 => ?_)
      · replace h := h.1 c20
        exact W.vret hx hb hr (fun t ht hW => ⟨⟨(I17, J, cn, cm, so), rfl, h, by rw [fxC, ht]; exact hP⟩, hS.F ht⟩) hS.2.2 dXM_waitAt_169 hlocks
      · replace h := h.2 c20
        refine lv_aload_n hx hb dXM_waitAt_163 rfl (lv_at hl 0 rfl) ?_
        refine lv_iload_n hx hb dXM_waitAt_164 rfl (lv_at hl 1 rfl) ?_
        refine lv_iconst (v := 0) hx hb dXM_waitAt_165 (by decide) ?_
        refine va_callv (va_runV (As := [.int v1, .int 0]) (rest := []) ⟨hx, hb, hml, hown, hts⟩ (cMleave hD h) (fx_cwV 2 hts gw_M_100 hdXM_leave ⟨Nat.le_of_ble_eq_true rfl, Nat.le_of_ble_eq_true rfl⟩) (fx_preV (m_recv hK hP) hP hK hN) rfl rfl hl.1 rfl (lv_room (Nat.le_of_ble_eq_true rfl)) dXM_waitAt_166 ⟨Nat.le_of_ble_eq_true rfl, Nat.le_of_ble_eq_true rfl⟩) hS (fun _ _ q => q) (fun _ q => q) (fun u t H locs ht hvm h hP hz hk hS => ?_)
        rw [fxC, ht] at hP
        obtain ⟨I_21, J_21, cn_21, cm_21, so_21⟩ := u
        dsimp only at h
        exact W.vret hx hb hr (fun t ht hW => ⟨⟨(I_21, J_21, cn_21, cm_21, so_21), rfl, h, by rw [fxC, ht]; exact hP⟩, hS.F ht⟩) hS.2.2 dXM_waitAt_169 hlocks
    · replace h := h.2 c15
      refine lv_aload_n hx hb dXM_waitAt_118 rfl (lv_at hl 0 rfl) ?_
      refine mg_waitLink hx hb hown hts hK hP dXM_waitAt_119 ?_
      refine lv_iconst (v := 4) hx hb dXM_waitAt_122 (by decide) ?_
      refine lv_iload_n hx hb dXM_waitAt_123 rfl (lv_at hl 2 rfl) ?_
      refine lv_imul hx hb dXM_waitAt_124 ?_
      refine lv_iload hx hb dXM_waitAt_125 (lv_at hl 3 rfl) ?_
      refine lv_iadd hx hb dXM_waitAt_127 ?_
      refine lv_aload_n hx hb dXM_waitAt_128 rfl (lv_at hl 0 rfl) ?_
      refine mg_comingLink hx hb hown hts hK hP dXM_waitAt_129 ?_
      refine lv_iload hx hb dXM_waitAt_132 (lv_at hl 3 rfl) ?_
      obtain ⟨h22, h⟩ := h
      refine ma_17 hx hb hK hP h22 dXM_waitAt_134 ?_
      obtain ⟨h24, h⟩ := h
      obtain ⟨J23, eJ23⟩ : ∃ y, y = mj_up J 5 (Int32.toNatClampNeg ((4 * v3) + v4)) (J 7 (Int32.toNatClampNeg v4)) := ⟨_, rfl⟩
      replace h := h J23 eJ23
      refine ms_13 hx hb hK hD hP hS h24 dXM_waitAt_135 (fun H locs hP hS => ?_)
      rw [← eJ23] at hP
      refine lv_iinc (v := v4 + 1) (lv' := [(4, .int (v4 + 1)), (0, .ref h0), (1, .int v1), (3, .int v3)]) hx hb dXM_waitAt_136 hl (k := 3) rfl rfl (by decide) rfl (fun ls hl => ?_)
      refine lv_goto (tgt := 112) hx hb dXM_waitAt_139 (by decide) ?_
      exact hK112 I J23 cn cm so v1 v3 (v4 + 1) h H locs ls hP hS (lv_sub hl [1, 2, 3, 0] rfl)
set_option maxRecDepth 100000 in
set_option maxHeartbeats 4000000 in
theorem sMwaitAt_79 {p : Program} {l : Launch} {e : Env} {s : State} {m : MethodId} {args : Array Value} {below : List Frame} {meth : Method} {c : Code} {D : va_G} {A : Nat → Prop} {h0 : Nat} {ad : Nat → Nat} {cI cL : ClassId} {post : (Nat → Nat → Int32) → (Nat → Nat → Int64) → Int32 → Int64 → Int32 → Prop} (C0 : mCx p s m args meth c D A h0 ad cI cL cXM_waitAt 5 none) : ∀ (n : Nat) (I : Nat → Nat → Int32) (J : Nat → Nat → Int64) (cn : Int32) (cm : Int64) (so : Int32) (v1 : Int32) (v3 : Int32) (v4 : Int32), wMwaitAt_79 post  n I J cn cm so v1 v3 v4 → ∀ (H : Heap) (locs : List Loc) (ls : Array Slot), mW D h0 ad cI cL (I, J, cn, cm, so) H → va_S A s.heap H locs → lv_has ls 5 [(0, .ref h0), (1, .int v1), (3, .int v3), (4, .int v4)] → W p l e ({ frames := 1, cells := 0, slots := 0, locals := 24 } : Room) s m args below meth c H locs 0 0 (MQ below (va_Qv (fun (u : mS) => post u.1 u.2.1 u.2.2.1 u.2.2.2.1 u.2.2.2.2) (fxC (mW D h0 ad cI cL)) A) args s 0 0 A) (F0 m 79 ls []) := by
  obtain ⟨hx, hb, hr, hml, hown, hts, hlocks, hK, hN, hD⟩ := id C0
  intro n
  induction n with
  | zero => exact fun _ _ _ _ _ _ _ _ h => h.elim
  | succ n hK79 =>
    intro I J cn cm so v1 v3 v4 h H locs ls hP hS hl
    replace h : ((5 ≤ v4 → (∃ k, wMwaitAt_112 post  k I J cn cm so v1 v3 0)) ∧ (¬ 5 ≤ v4 → (vp_in v4 5 ∧ (vp_in ((5 * v3) + v4) 120 ∧ ∀ I13, I13 = mi_up I 7 (Int32.toNatClampNeg ((5 * v3) + v4)) (I 9 (Int32.toNatClampNeg v4)) → ((wMwaitAt_79 post  n) I13 J cn cm so v1 v3 (v4 + 1)))))) := h
    refine lv_iload hx hb dXM_waitAt_79 (lv_at hl 3 rfl) ?_
    refine lv_iconst (v := 5) hx hb dXM_waitAt_81 (by decide) ?_
    refine lv_icmp_ge (tgt := 109) hx hb dXM_waitAt_82 (by decide) (fun c11 => ?_) (fun c11 => ?_)
    · replace h := h.1 c11
      refine lv_iconst (v := 0) hx hb dXM_waitAt_109 (by decide) ?_
      refine lv_istore (lv' := [(4, .int 0), (0, .ref h0), (1, .int v1), (3, .int v3)]) hx hb dXM_waitAt_110 hl (by decide) rfl (fun ls hl => ?_)
      obtain ⟨k, h⟩ := h
      exact sMwaitAt_112  C0  k I J cn cm so v1 v3 0 h H locs ls hP hS (lv_sub hl [1, 2, 3, 0] rfl)
    · replace h := h.2 c11
      refine lv_aload_n hx hb dXM_waitAt_85 rfl (lv_at hl 0 rfl) ?_
      refine mg_waitNumbers hx hb hown hts hK hP dXM_waitAt_86 ?_
      refine lv_iconst (v := 5) hx hb dXM_waitAt_89 (by decide) ?_
      refine lv_iload_n hx hb dXM_waitAt_90 rfl (lv_at hl 2 rfl) ?_
      refine lv_imul hx hb dXM_waitAt_91 ?_
      refine lv_iload hx hb dXM_waitAt_92 (lv_at hl 3 rfl) ?_
      refine lv_iadd hx hb dXM_waitAt_94 ?_
      refine lv_aload_n hx hb dXM_waitAt_95 rfl (lv_at hl 0 rfl) ?_
      refine mg_numbers hx hb hown hts hK hP dXM_waitAt_96 ?_
      refine lv_iload hx hb dXM_waitAt_99 (lv_at hl 3 rfl) ?_
      obtain ⟨h12, h⟩ := h
      refine ma_16 hx hb hK hP h12 dXM_waitAt_101 ?_
      obtain ⟨h14, h⟩ := h
      obtain ⟨I13, eI13⟩ : ∃ y, y = mi_up I 7 (Int32.toNatClampNeg ((5 * v3) + v4)) (I 9 (Int32.toNatClampNeg v4)) := ⟨_, rfl⟩
      replace h := h I13 eI13
      refine ms_12 hx hb hK hD hP hS h14 dXM_waitAt_102 (fun H locs hP hS => ?_)
      rw [← eI13] at hP
      refine lv_iinc (v := v4 + 1) (lv' := [(4, .int (v4 + 1)), (0, .ref h0), (1, .int v1), (3, .int v3)]) hx hb dXM_waitAt_103 hl (k := 3) rfl rfl (by decide) rfl (fun ls hl => ?_)
      refine lv_goto (tgt := 79) hx hb dXM_waitAt_106 (by decide) ?_
      exact hK79 I13 J cn cm so v1 v3 (v4 + 1) h H locs ls hP hS (lv_sub hl [1, 2, 3, 0] rfl)
set_option maxRecDepth 100000 in
set_option maxHeartbeats 4000000 in
theorem sMwaitAt_4 {p : Program} {l : Launch} {e : Env} {s : State} {m : MethodId} {args : Array Value} {below : List Frame} {meth : Method} {c : Code} {D : va_G} {A : Nat → Prop} {h0 : Nat} {ad : Nat → Nat} {cI cL : ClassId} {post : (Nat → Nat → Int32) → (Nat → Nat → Int64) → Int32 → Int64 → Int32 → Prop} (C0 : mCx p s m args meth c D A h0 ad cI cL cXM_waitAt 5 none) : ∀ (n : Nat) (I : Nat → Nat → Int32) (J : Nat → Nat → Int64) (cn : Int32) (cm : Int64) (so : Int32) (v1 : Int32) (v2 : Int32) (v3 : Int32), wMwaitAt_4 post  n I J cn cm so v1 v2 v3 → ∀ (H : Heap) (locs : List Loc) (ls : Array Slot), mW D h0 ad cI cL (I, J, cn, cm, so) H → va_S A s.heap H locs → lv_has ls 5 [(0, .ref h0), (1, .int v1), (2, .int v2), (3, .int v3)] → W p l e ({ frames := 1, cells := 0, slots := 0, locals := 24 } : Room) s m args below meth c H locs 0 0 (MQ below (va_Qv (fun (u : mS) => post u.1 u.2.1 u.2.2.1 u.2.2.2.1 u.2.2.2.2) (fxC (mW D h0 ad cI cL)) A) args s 0 0 A) (F0 m 4 ls []) := by
  obtain ⟨hx, hb, hr, hml, hown, hts, hlocks, hK, hN, hD⟩ := id C0
  intro n
  induction n with
  | zero => exact fun _ _ _ _ _ _ _ _ h => h.elim
  | succ n hK4 =>
    intro I J cn cm so v1 v2 v3 h H locs ls hP hS hl
    replace h : (vp_in v1 4 ∧ (((I 6 (Int32.toNatClampNeg v1)) ≤ v3 → ((v2 = 0 → (vp_in v1 4 ∧ ∀ x5, x5 = (6 * v1) + (I 6 (Int32.toNatClampNeg v1)) → (vp_in x5 24 ∧ ∀ J6, J6 = mj_up J 4 (Int32.toNatClampNeg x5) cm → (∃ k, wMwaitAt_79 post  k I J6 cn cm so v1 x5 0)))) ∧ (¬ v2 = 0 → (post I J cn cm so)))) ∧ (¬ (I 6 (Int32.toNatClampNeg v1)) ≤ v3 → ((¬ v2 = 0 → ((wMwaitAt_4 post  n) I J cn cm so v1 1 (v3 + 1))) ∧ (v2 = 0 → (vp_in ((6 * v1) + v3) 24 ∧ ((¬ (lg_cmp (J 4 (Int32.toNatClampNeg ((6 * v1) + v3))) cm) = 0 → ((wMwaitAt_4 post  n) I J cn cm so v1 0 (v3 + 1))) ∧ ((lg_cmp (J 4 (Int32.toNatClampNeg ((6 * v1) + v3))) cm) = 0 → ((wMwaitAt_4 post  n) I J cn cm so v1 1 (v3 + 1)))))))))) := h
    refine lv_iload_n hx hb dXM_waitAt_4 rfl (lv_at hl 3 rfl) ?_
    refine lv_aload_n hx hb dXM_waitAt_5 rfl (lv_at hl 0 rfl) ?_
    refine mg_waits hx hb hown hts hK hP dXM_waitAt_6 ?_
    refine lv_iload_n hx hb dXM_waitAt_9 rfl (lv_at hl 1 rfl) ?_
    obtain ⟨h1, h⟩ := h
    refine ma_10 hx hb hK hP h1 dXM_waitAt_10 ?_
    refine lv_icmp_ge (tgt := 49) hx hb dXM_waitAt_11 (by decide) (fun c2 => ?_) (fun c2 => ?_)
    · replace h := h.1 c2
      refine lv_iload_n hx hb dXM_waitAt_49 rfl (lv_at hl 2 rfl) ?_
      refine lv_if_eq (tgt := 54) hx hb dXM_waitAt_50 (by decide) (fun c3 => ?_) (fun c3 => ?_)
      · replace h := h.1 c3
        refine lv_bipush (v := 6) hx hb dXM_waitAt_54 (by decide) ?_
        refine lv_iload_n hx hb dXM_waitAt_56 rfl (lv_at hl 1 rfl) ?_
        refine lv_imul hx hb dXM_waitAt_57 ?_
        refine lv_aload_n hx hb dXM_waitAt_58 rfl (lv_at hl 0 rfl) ?_
        refine mg_waits hx hb hown hts hK hP dXM_waitAt_59 ?_
        refine lv_iload_n hx hb dXM_waitAt_62 rfl (lv_at hl 1 rfl) ?_
        obtain ⟨h4, h⟩ := h
        refine ma_10 hx hb hK hP h4 dXM_waitAt_63 ?_
        refine lv_iadd hx hb dXM_waitAt_64 ?_
        refine lv_topi (fun x5 ex5 => ?_)
        replace h := h x5 ex5
        refine lv_istore_n (lv' := [(3, .int x5), (0, .ref h0), (1, .int v1), (2, .int v2)]) hx hb dXM_waitAt_65 rfl hl (by decide) rfl (fun ls hl => ?_)
        refine lv_aload_n hx hb dXM_waitAt_66 rfl (lv_at hl 1 rfl) ?_
        refine mg_waitHash hx hb hown hts hK hP dXM_waitAt_67 ?_
        refine lv_iload_n hx hb dXM_waitAt_70 rfl (lv_at hl 0 rfl) ?_
        refine lv_aload_n hx hb dXM_waitAt_71 rfl (lv_at hl 1 rfl) ?_
        refine mg_coming hx hb hown hts hK hP dXM_waitAt_72 ?_
        obtain ⟨h7, h⟩ := h
        obtain ⟨J6, eJ6⟩ : ∃ y, y = mj_up J 4 (Int32.toNatClampNeg x5) cm := ⟨_, rfl⟩
        replace h := h J6 eJ6
        refine ms_11 hx hb hK hD hP hS h7 dXM_waitAt_75 (fun H locs hP hS => ?_)
        rw [← eJ6] at hP
        refine lv_iconst (v := 0) hx hb dXM_waitAt_76 (by decide) ?_
        refine lv_istore (lv' := [(4, .int 0), (3, .int x5), (0, .ref h0), (1, .int v1), (2, .int v2)]) hx hb dXM_waitAt_77 hl (by decide) rfl (fun ls hl => ?_)
        obtain ⟨k, h⟩ := h
        exact sMwaitAt_79  C0  k I J6 cn cm so v1 x5 0 h H locs ls hP hS (lv_sub hl [2, 3, 1, 0] rfl)
      · replace h := h.2 c3
        exact W.vret hx hb hr (fun t ht hW => ⟨⟨(I, J, cn, cm, so), rfl, h, by rw [fxC, ht]; exact hP⟩, hS.F ht⟩) hS.2.2 dXM_waitAt_53 hlocks
    · replace h := h.2 c2
      refine lv_iload_n hx hb dXM_waitAt_14 rfl (lv_at hl 2 rfl) ?_
      refine lv_if_ne (tgt := 37) hx hb dXM_waitAt_15 (by decide) (fun c8 => ?_) (fun c8 => ?_)
      · replace h := h.1 c8
        refine lv_iconst (v := 1) hx hb dXM_waitAt_37 (by decide) ?_
        refine lv_goto (tgt := 42) hx hb dXM_waitAt_38 (by decide) ?_
        refine lv_istore_n (lv' := [(2, .int 1), (0, .ref h0), (1, .int v1), (3, .int v3)]) hx hb dXM_waitAt_42 rfl hl (by decide) rfl (fun ls hl => ?_)
        refine lv_iinc (v := v3 + 1) (lv' := [(3, .int (v3 + 1)), (2, .int 1), (0, .ref h0), (1, .int v1)]) hx hb dXM_waitAt_43 hl (k := 3) rfl rfl (by decide) rfl (fun ls hl => ?_)
        refine lv_goto (tgt := 4) hx hb dXM_waitAt_46 (by decide) ?_
        exact hK4 I J cn cm so v1 1 (v3 + 1) h H locs ls hP hS (lv_sub hl [2, 3, 1, 0] rfl)
      · replace h := h.2 c8
        refine lv_aload_n hx hb dXM_waitAt_18 rfl (lv_at hl 0 rfl) ?_
        refine mg_waitHash hx hb hown hts hK hP dXM_waitAt_19 ?_
        refine lv_bipush (v := 6) hx hb dXM_waitAt_22 (by decide) ?_
        refine lv_iload_n hx hb dXM_waitAt_24 rfl (lv_at hl 1 rfl) ?_
        refine lv_imul hx hb dXM_waitAt_25 ?_
        refine lv_iload_n hx hb dXM_waitAt_26 rfl (lv_at hl 3 rfl) ?_
        refine lv_iadd hx hb dXM_waitAt_27 ?_
        obtain ⟨h9, h⟩ := h
        refine ma_11 hx hb hK hP h9 dXM_waitAt_28 ?_
        refine lv_aload_n hx hb dXM_waitAt_29 rfl (lv_at hl 0 rfl) ?_
        refine mg_coming hx hb hown hts hK hP dXM_waitAt_30 ?_
        refine W.lcmp hx hb dXM_waitAt_33 ?_
        refine lv_if_ne (tgt := 41) hx hb dXM_waitAt_34 (by decide) (fun c10 => ?_) (fun c10 => ?_)
        · replace h := h.1 c10
          refine lv_iconst (v := 0) hx hb dXM_waitAt_41 (by decide) ?_
          refine lv_istore_n (lv' := [(2, .int 0), (0, .ref h0), (1, .int v1), (3, .int v3)]) hx hb dXM_waitAt_42 rfl hl (by decide) rfl (fun ls hl => ?_)
          refine lv_iinc (v := v3 + 1) (lv' := [(3, .int (v3 + 1)), (2, .int 0), (0, .ref h0), (1, .int v1)]) hx hb dXM_waitAt_43 hl (k := 3) rfl rfl (by decide) rfl (fun ls hl => ?_)
          refine lv_goto (tgt := 4) hx hb dXM_waitAt_46 (by decide) ?_
          exact hK4 I J cn cm so v1 0 (v3 + 1) h H locs ls hP hS (lv_sub hl [2, 3, 1, 0] rfl)
        · replace h := h.2 c10
          refine lv_iconst (v := 1) hx hb dXM_waitAt_37 (by decide) ?_
          refine lv_goto (tgt := 42) hx hb dXM_waitAt_38 (by decide) ?_
          refine lv_istore_n (lv' := [(2, .int 1), (0, .ref h0), (1, .int v1), (3, .int v3)]) hx hb dXM_waitAt_42 rfl hl (by decide) rfl (fun ls hl => ?_)
          refine lv_iinc (v := v3 + 1) (lv' := [(3, .int (v3 + 1)), (2, .int 1), (0, .ref h0), (1, .int v1)]) hx hb dXM_waitAt_43 hl (k := 3) rfl rfl (by decide) rfl (fun ls hl => ?_)
          refine lv_goto (tgt := 4) hx hb dXM_waitAt_46 (by decide) ?_
          exact hK4 I J cn cm so v1 1 (v3 + 1) h H locs ls hP hS (lv_sub hl [2, 3, 1, 0] rfl)
set_option maxRecDepth 100000 in
set_option maxHeartbeats 4000000 in
theorem sMwaitAt_in {p : Program} {l : Launch} {e : Env} {s : State} {m : MethodId} {args : Array Value} {below : List Frame} {meth : Method} {c : Code} {D : va_G} {A : Nat → Prop} {h0 : Nat} {ad : Nat → Nat} {cI cL : ClassId} {post : (Nat → Nat → Int32) → (Nat → Nat → Int64) → Int32 → Int64 → Int32 → Prop} (C0 : mCx p s m args meth c D A h0 ad cI cL cXM_waitAt 5 none) : ∀ (I : Nat → Nat → Int32) (J : Nat → Nat → Int64) (cn : Int32) (cm : Int64) (so : Int32) (a1 : Int32), wMwaitAt post I J cn cm so a1 → ∀ (H : Heap) (locs : List Loc) (ls : Array Slot), mW D h0 ad cI cL (I, J, cn, cm, so) H → va_S A s.heap H locs → lv_has ls 5 [(0, .ref h0), (1, .int a1)] → W p l e ({ frames := 1, cells := 0, slots := 0, locals := 24 } : Room) s m args below meth c H locs 0 0 (MQ below (va_Qv (fun (u : mS) => post u.1 u.2.1 u.2.2.1 u.2.2.2.1 u.2.2.2.2) (fxC (mW D h0 ad cI cL)) A) args s 0 0 A) (F0 m 0 ls []) := by
  obtain ⟨hx, hb, hr, hml, hown, hts, hlocks, hK, hN, hD⟩ := id C0
  intro I J cn cm so a1 h H locs ls hP hS hl
  replace h : (∃ k, wMwaitAt_4 post  k I J cn cm so a1 0 0) := h
  refine lv_iconst (v := 0) hx hb dXM_waitAt_0 (by decide) ?_
  refine lv_istore_n (lv' := [(2, .int 0), (0, .ref h0), (1, .int a1)]) hx hb dXM_waitAt_1 rfl hl (by decide) rfl (fun ls hl => ?_)
  refine lv_iconst (v := 0) hx hb dXM_waitAt_2 (by decide) ?_
  refine lv_istore_n (lv' := [(3, .int 0), (2, .int 0), (0, .ref h0), (1, .int a1)]) hx hb dXM_waitAt_3 rfl hl (by decide) rfl (fun ls hl => ?_)
  obtain ⟨k, h⟩ := h
  exact sMwaitAt_4  C0  k I J cn cm so a1 0 0 h H locs ls hP hS (lv_sub hl [2, 3, 1, 0] rfl)
set_option maxRecDepth 100000 in
set_option maxHeartbeats 4000000 in
theorem cMwaitAt {l : Launch} {D : va_G} {A : Nat → Prop} {h0 : Nat} {ad : Nat → Nat} {cI cL : ClassId} (hD : mDs A h0 ad cI cL) {post : (Nat → Nat → Int32) → (Nat → Nat → Int64) → Int32 → Int64 → Int32 → Prop} {I : Nat → Nat → Int32} {J : Nat → Nat → Int64} {cn : Int32} {cm : Int64} {so : Int32} {a1 : Int32} (h : wMwaitAt post I J cn cm so a1) : Met l yXM_waitAt (.code yXM_waitAt cXM_waitAt 5 none :: lg_tbl) ({ frames := 1, cells := 0, slots := 0, locals := 24 } : Room) (va_Pc [.ref h0, .int a1] (fxB (mW D h0 ad cI cL (I, J, cn, cm, so)) D vwCl (mTy cI cL))) (va_Qv (fun (u : mS) => post u.1 u.2.1 u.2.2.1 u.2.2.2.1 u.2.2.2.2) (fxC (mW D h0 ad cI cL)) A) 0 0 A := by
  refine fx_start (by decide +kernel) (Nat.le_of_ble_eq_true rfl) ?_
  intro p e s m below meth c ls hx hb hr hml hown hts hlocks hnm hB hl
  exact sMwaitAt_in ⟨hx, hb, hr, hml, hown, hts, hlocks, hB.2.1, hB.2.2, hD⟩ I J cn cm so a1 h _ _ ls hB.1 va_S.rf hl
end
section
def wMarrive_91 (post : Int32 → (Nat → Nat → Int32) → (Nat → Nat → Int64) → Int32 → Int64 → Int32 → Prop) (I : Nat → Nat → Int32) (J : Nat → Nat → Int64) (cn : Int32) (cm : Int64) (so : Int32) (v1 : Int32) (t0 : Int32) : Prop := (vp_in v1 4 ∧ (vp_in v1 4 ∧ ∀ J19, J19 = mj_up J 3 (Int32.toNatClampNeg v1) ((J 3 (Int32.toNatClampNeg v1)) ||| (hj_shl 1 t0)) → (post 1 I J19 cn cm so)))
def wMarrive_79 (post : Int32 → (Nat → Nat → Int32) → (Nat → Nat → Int64) → Int32 → Int64 → Int32 → Prop) (I : Nat → Nat → Int32) (J : Nat → Nat → Int64) (cn : Int32) (cm : Int64) (so : Int32) (v1 : Int32) (v2 : Int32) : Prop := ((0 ≤ v2 → (wMarrive_91 post  I J cn cm so v1 v2)) ∧ (¬ 0 ≤ v2 → (wMenter (fun r17 I_17 J_17 cn_17 cm_17 so_17 => (wMarrive_91 post  I_17 J_17 cn_17 cm_17 so_17 v1 r17)) I J cn cm so )))
def wMarrive_33 (post : Int32 → (Nat → Nat → Int32) → (Nat → Nat → Int64) → Int32 → Int64 → Int32 → Prop) (I : Nat → Nat → Int32) (J : Nat → Nat → Int64) (cn : Int32) (cm : Int64) (so : Int32) (v1 : Int32) (v2 : Int32) : Prop := (wMinShape (fun r7 I_7 J_7 cn_7 cm_7 so_7 => ((¬ r7 = 0 → (wMlinksHeld (fun r9 I_9 J_9 cn_9 cm_9 so_9 => ((¬ r9 = 0 → (wMisRight (fun r11 I_11 J_11 cn_11 cm_11 so_11 => ((r11 = 0 → (post 3 I_11 J_11 cn_11 cm_11 so_11)) ∧ (¬ r11 = 0 → ((0 ≤ v2 → (wMarrive_79 post  I_11 J_11 cn_11 cm_11 so_11 v1 v2)) ∧ (¬ 0 ≤ v2 → ((¬ cn_11 = 40 → (wMarrive_79 post  I_11 J_11 cn_11 cm_11 so_11 v1 v2)) ∧ (cn_11 = 40 → (post 3 I_11 J_11 cn_11 cm_11 so_11)))))))) I_9 J_9 cn_9 cm_9 so_9 )) ∧ (r9 = 0 → (wMwaitAt (fun I_15 J_15 cn_15 cm_15 so_15 => (post 2 I_15 J_15 cn_15 cm_15 so_15)) I_9 J_9 cn_9 cm_9 so_9 v1)))) I_7 J_7 cn_7 cm_7 so_7 v1)) ∧ (r7 = 0 → (post 3 I_7 J_7 cn_7 cm_7 so_7)))) I J cn cm so )
def wMarrive (post : Int32 → (Nat → Nat → Int32) → (Nat → Nat → Int64) → Int32 → Int64 → Int32 → Prop) (I : Nat → Nat → Int32) (J : Nat → Nat → Int64) (cn : Int32) (cm : Int64) (so : Int32) (a1 : Int32) : Prop := (wMfind (fun r1 I_1 J_1 cn_1 cm_1 so_1 => (vp_in a1 4 ∧ (wMin (fun r3 I_3 J_3 cn_3 cm_3 so_3 => ((r3 = 0 → ((r1 < 0 → (wMarrive_33 post  I_3 J_3 cn_3 cm_3 so_3 a1 r1)) ∧ (¬ r1 < 0 → (wMbecome (fun I_6 J_6 cn_6 cm_6 so_6 => (wMarrive_33 post  I_6 J_6 cn_6 cm_6 so_6 a1 r1)) I_3 J_3 cn_3 cm_3 so_3 r1)))) ∧ (¬ r3 = 0 → (post 0 I_3 J_3 cn_3 cm_3 so_3)))) I_1 J_1 cn_1 cm_1 so_1 (J_1 3 (Int32.toNatClampNeg a1)) r1))) I J cn cm so cm)
set_option maxRecDepth 100000 in
set_option maxHeartbeats 4000000 in
theorem sMarrive_91 {p : Program} {l : Launch} {e : Env} {s : State} {m : MethodId} {args : Array Value} {below : List Frame} {meth : Method} {c : Code} {D : va_G} {A : Nat → Prop} {h0 : Nat} {ad : Nat → Nat} {cI cL : ClassId} {post : Int32 → (Nat → Nat → Int32) → (Nat → Nat → Int64) → Int32 → Int64 → Int32 → Prop} (C0 : mCx p s m args meth c D A h0 ad cI cL cXM_arrive 4 (some .int)) : ∀ (I : Nat → Nat → Int32) (J : Nat → Nat → Int64) (cn : Int32) (cm : Int64) (so : Int32) (v1 : Int32) (t0 : Int32), wMarrive_91 post  I J cn cm so v1 t0 → ∀ (H : Heap) (locs : List Loc) (ls : Array Slot), mW D h0 ad cI cL (I, J, cn, cm, so) H → va_S A s.heap H locs → lv_has ls 4 [(0, .ref h0), (1, .int v1)] → W p l e ({ frames := 3, cells := 0, slots := 0, locals := 75 } : Room) s m args below meth c H locs 0 0 (MQ below (va_Qi (fun (r : Int32) (u : mS) => post r u.1 u.2.1 u.2.2.1 u.2.2.2.1 u.2.2.2.2) (fxC (mW D h0 ad cI cL)) A) args s 0 0 A) (F0 m 91 ls [.int t0]) := by
  obtain ⟨hx, hb, hr, hml, hown, hts, hlocks, hK, hN, hD⟩ := id C0
  intro I J cn cm so v1 t0 h H locs ls hP hS hl
  replace h : (vp_in v1 4 ∧ (vp_in v1 4 ∧ ∀ J19, J19 = mj_up J 3 (Int32.toNatClampNeg v1) ((J 3 (Int32.toNatClampNeg v1)) ||| (hj_shl 1 t0)) → (post 1 I J19 cn cm so))) := h
  refine lv_istore_n (lv' := [(3, .int t0), (0, .ref h0), (1, .int v1)]) hx hb dXM_arrive_91 rfl hl (by decide) rfl (fun ls hl => ?_)
  refine lv_aload_n hx hb dXM_arrive_92 rfl (lv_at hl 1 rfl) ?_
  refine mg_holds hx hb hown hts hK hP dXM_arrive_93 ?_
  refine lv_iload_n hx hb dXM_arrive_96 rfl (lv_at hl 2 rfl) ?_
  refine lv_aload_n hx hb dXM_arrive_97 rfl (lv_at hl 1 rfl) ?_
  refine mg_holds hx hb hown hts hK hP dXM_arrive_98 ?_
  refine lv_iload_n hx hb dXM_arrive_101 rfl (lv_at hl 2 rfl) ?_
  obtain ⟨h18, h⟩ := h
  refine ma_9 hx hb hK hP h18 dXM_arrive_102 ?_
  refine lv_lconst (v := 1) hx hb dXM_arrive_103 (by decide) ?_
  refine lv_iload_n hx hb dXM_arrive_104 rfl (lv_at hl 0 rfl) ?_
  refine lv_lshl (v := hj_shl 1 t0) hx hb dXM_arrive_105 rfl ?_
  refine lv_lor hx hb dXM_arrive_106 ?_
  obtain ⟨h20, h⟩ := h
  obtain ⟨J19, eJ19⟩ : ∃ y, y = mj_up J 3 (Int32.toNatClampNeg v1) ((J 3 (Int32.toNatClampNeg v1)) ||| (hj_shl 1 t0)) := ⟨_, rfl⟩
  replace h := h J19 eJ19
  refine ms_9 hx hb hK hD hP hS h20 dXM_arrive_107 (fun H locs hP hS => ?_)
  rw [← eJ19] at hP
  refine lv_iconst (v := 1) hx hb dXM_arrive_108 (by decide) ?_
  exact W.iret hx hb hr (fun t ht hW => ⟨⟨_, (I, J19, cn, cm, so), rfl, h, by rw [fxC, ht]; exact hP⟩, hS.F ht⟩) hS.2.2 dXM_arrive_109 hlocks
set_option maxRecDepth 100000 in
set_option maxHeartbeats 4000000 in
theorem sMarrive_79 {p : Program} {l : Launch} {e : Env} {s : State} {m : MethodId} {args : Array Value} {below : List Frame} {meth : Method} {c : Code} {D : va_G} {A : Nat → Prop} {h0 : Nat} {ad : Nat → Nat} {cI cL : ClassId} {post : Int32 → (Nat → Nat → Int32) → (Nat → Nat → Int64) → Int32 → Int64 → Int32 → Prop} (C0 : mCx p s m args meth c D A h0 ad cI cL cXM_arrive 4 (some .int)) : ∀ (I : Nat → Nat → Int32) (J : Nat → Nat → Int64) (cn : Int32) (cm : Int64) (so : Int32) (v1 : Int32) (v2 : Int32), wMarrive_79 post  I J cn cm so v1 v2 → ∀ (H : Heap) (locs : List Loc) (ls : Array Slot), mW D h0 ad cI cL (I, J, cn, cm, so) H → va_S A s.heap H locs → lv_has ls 4 [(0, .ref h0), (1, .int v1), (2, .int v2)] → W p l e ({ frames := 3, cells := 0, slots := 0, locals := 75 } : Room) s m args below meth c H locs 0 0 (MQ below (va_Qi (fun (r : Int32) (u : mS) => post r u.1 u.2.1 u.2.2.1 u.2.2.2.1 u.2.2.2.2) (fxC (mW D h0 ad cI cL)) A) args s 0 0 A) (F0 m 79 ls []) := by
  obtain ⟨hx, hb, hr, hml, hown, hts, hlocks, hK, hN, hD⟩ := id C0
  intro I J cn cm so v1 v2 h H locs ls hP hS hl
  replace h : ((0 ≤ v2 → (wMarrive_91 post  I J cn cm so v1 v2)) ∧ (¬ 0 ≤ v2 → (wMenter (fun r17 I_17 J_17 cn_17 cm_17 so_17 => (wMarrive_91 post  I_17 J_17 cn_17 cm_17 so_17 v1 r17)) I J cn cm so ))) := h
  refine lv_iload_n hx hb dXM_arrive_79 rfl (lv_at hl 2 rfl) ?_
  refine lv_if_ge (tgt := 90) hx hb dXM_arrive_80 (by decide) (fun c16 => ?_) (fun c16 => ?_)
  · replace h := h.1 c16
    refine lv_iload_n hx hb dXM_arrive_90 rfl (lv_at hl 2 rfl) ?_
    exact sMarrive_91  C0  I J cn cm so v1 v2 h H locs ls hP hS (lv_sub hl [0, 1] rfl)
  · replace h := h.2 c16
    refine lv_aload_n hx hb dXM_arrive_83 rfl (lv_at hl 0 rfl) ?_
    refine va_calli (va_runV (As := []) (rest := []) ⟨hx, hb, hml, hown, hts⟩ (cMenter hD h) (fx_cwV 0 hts gw_M_122 hdXM_enter ⟨Nat.le_of_ble_eq_true rfl, Nat.le_of_ble_eq_true rfl⟩) (fx_preV (m_recv hK hP) hP hK hN) rfl rfl hl.1 rfl (lv_room (Nat.le_of_ble_eq_true rfl)) dXM_arrive_84 ⟨Nat.le_of_ble_eq_true rfl, Nat.le_of_ble_eq_true rfl⟩) hS (fun _ _ q => q) (fun _ q => q) (fun r17 u t H locs ht hvm h hP hz hk hS => ?_)
    rw [fxC, ht] at hP
    obtain ⟨I_17, J_17, cn_17, cm_17, so_17⟩ := u
    dsimp only at h
    refine lv_goto (tgt := 91) hx hb dXM_arrive_87 (by decide) ?_
    exact sMarrive_91  C0  I_17 J_17 cn_17 cm_17 so_17 v1 r17 h H locs ls hP hS (lv_sub hl [0, 1] rfl)
set_option maxRecDepth 100000 in
set_option maxHeartbeats 4000000 in
theorem sMarrive_33 {p : Program} {l : Launch} {e : Env} {s : State} {m : MethodId} {args : Array Value} {below : List Frame} {meth : Method} {c : Code} {D : va_G} {A : Nat → Prop} {h0 : Nat} {ad : Nat → Nat} {cI cL : ClassId} {post : Int32 → (Nat → Nat → Int32) → (Nat → Nat → Int64) → Int32 → Int64 → Int32 → Prop} (C0 : mCx p s m args meth c D A h0 ad cI cL cXM_arrive 4 (some .int)) : ∀ (I : Nat → Nat → Int32) (J : Nat → Nat → Int64) (cn : Int32) (cm : Int64) (so : Int32) (v1 : Int32) (v2 : Int32), wMarrive_33 post  I J cn cm so v1 v2 → ∀ (H : Heap) (locs : List Loc) (ls : Array Slot), mW D h0 ad cI cL (I, J, cn, cm, so) H → va_S A s.heap H locs → lv_has ls 4 [(0, .ref h0), (1, .int v1), (2, .int v2)] → W p l e ({ frames := 3, cells := 0, slots := 0, locals := 75 } : Room) s m args below meth c H locs 0 0 (MQ below (va_Qi (fun (r : Int32) (u : mS) => post r u.1 u.2.1 u.2.2.1 u.2.2.2.1 u.2.2.2.2) (fxC (mW D h0 ad cI cL)) A) args s 0 0 A) (F0 m 33 ls []) := by
  obtain ⟨hx, hb, hr, hml, hown, hts, hlocks, hK, hN, hD⟩ := id C0
  intro I J cn cm so v1 v2 h H locs ls hP hS hl
  replace h : (wMinShape (fun r7 I_7 J_7 cn_7 cm_7 so_7 => ((¬ r7 = 0 → (wMlinksHeld (fun r9 I_9 J_9 cn_9 cm_9 so_9 => ((¬ r9 = 0 → (wMisRight (fun r11 I_11 J_11 cn_11 cm_11 so_11 => ((r11 = 0 → (post 3 I_11 J_11 cn_11 cm_11 so_11)) ∧ (¬ r11 = 0 → ((0 ≤ v2 → (wMarrive_79 post  I_11 J_11 cn_11 cm_11 so_11 v1 v2)) ∧ (¬ 0 ≤ v2 → ((¬ cn_11 = 40 → (wMarrive_79 post  I_11 J_11 cn_11 cm_11 so_11 v1 v2)) ∧ (cn_11 = 40 → (post 3 I_11 J_11 cn_11 cm_11 so_11)))))))) I_9 J_9 cn_9 cm_9 so_9 )) ∧ (r9 = 0 → (wMwaitAt (fun I_15 J_15 cn_15 cm_15 so_15 => (post 2 I_15 J_15 cn_15 cm_15 so_15)) I_9 J_9 cn_9 cm_9 so_9 v1)))) I_7 J_7 cn_7 cm_7 so_7 v1)) ∧ (r7 = 0 → (post 3 I_7 J_7 cn_7 cm_7 so_7)))) I J cn cm so ) := h
  refine lv_aload_n hx hb dXM_arrive_33 rfl (lv_at hl 0 rfl) ?_
  refine va_calli (va_runV (As := []) (rest := []) ⟨hx, hb, hml, hown, hts⟩ (cMinShape hD h) (fx_cwV 0 hts gw_M_108 hdXM_inShape ⟨Nat.le_of_ble_eq_true rfl, Nat.le_of_ble_eq_true rfl⟩) (fx_preV (m_recv hK hP) hP hK hN) rfl rfl hl.1 rfl (lv_room (Nat.le_of_ble_eq_true rfl)) dXM_arrive_34 ⟨Nat.le_of_ble_eq_true rfl, Nat.le_of_ble_eq_true rfl⟩) hS (fun _ _ q => q) (fun _ q => q) (fun r7 u t H locs ht hvm h hP hz hk hS => ?_)
  rw [fxC, ht] at hP
  obtain ⟨I_7, J_7, cn_7, cm_7, so_7⟩ := u
  dsimp only at h
  refine lv_if_ne (tgt := 42) hx hb dXM_arrive_37 (by decide) (fun c8 => ?_) (fun c8 => ?_)
  · replace h := h.1 c8
    refine lv_aload_n hx hb dXM_arrive_42 rfl (lv_at hl 0 rfl) ?_
    refine lv_iload_n hx hb dXM_arrive_43 rfl (lv_at hl 1 rfl) ?_
    refine va_calli (va_runV (As := [.int v1]) (rest := []) ⟨hx, hb, hml, hown, hts⟩ (cMlinksHeld hD h) (fx_cwV 1 hts gw_M_112 hdXM_linksHeld ⟨Nat.le_of_ble_eq_true rfl, Nat.le_of_ble_eq_true rfl⟩) (fx_preV (m_recv hK hP) hP hK hN) rfl rfl hl.1 rfl (lv_room (Nat.le_of_ble_eq_true rfl)) dXM_arrive_44 ⟨Nat.le_of_ble_eq_true rfl, Nat.le_of_ble_eq_true rfl⟩) hS (fun _ _ q => q) (fun _ q => q) (fun r9 u t H locs ht hvm h hP hz hk hS => ?_)
    rw [fxC, ht] at hP
    obtain ⟨I_9, J_9, cn_9, cm_9, so_9⟩ := u
    dsimp only at h
    refine lv_if_ne (tgt := 57) hx hb dXM_arrive_47 (by decide) (fun c10 => ?_) (fun c10 => ?_)
    · replace h := h.1 c10
      refine lv_aload_n hx hb dXM_arrive_57 rfl (lv_at hl 0 rfl) ?_
      refine va_calli (va_runV (As := []) (rest := []) ⟨hx, hb, hml, hown, hts⟩ (cMisRight hD h) (fx_cwV 0 hts gw_M_119 hdXM_isRight ⟨Nat.le_of_ble_eq_true rfl, Nat.le_of_ble_eq_true rfl⟩) (fx_preV (m_recv hK hP) hP hK hN) rfl rfl hl.1 rfl (lv_room (Nat.le_of_ble_eq_true rfl)) dXM_arrive_58 ⟨Nat.le_of_ble_eq_true rfl, Nat.le_of_ble_eq_true rfl⟩) hS (fun _ _ q => q) (fun _ q => q) (fun r11 u t H locs ht hvm h hP hz hk hS => ?_)
      rw [fxC, ht] at hP
      obtain ⟨I_11, J_11, cn_11, cm_11, so_11⟩ := u
      dsimp only at h
      refine lv_if_eq (tgt := 77) hx hb dXM_arrive_61 (by decide) (fun c12 => ?_) (fun c12 => ?_)
      · replace h := h.1 c12
        refine lv_iconst (v := 3) hx hb dXM_arrive_77 (by decide) ?_
        exact W.iret hx hb hr (fun t ht hW => ⟨⟨_, (I_11, J_11, cn_11, cm_11, so_11), rfl, h, by rw [fxC, ht]; exact hP⟩, hS.F ht⟩) hS.2.2 dXM_arrive_78 hlocks
      · replace h := h.2 c12
        refine lv_iload_n hx hb dXM_arrive_64 rfl (lv_at hl 2 rfl) ?_
        refine lv_if_ge (tgt := 79) hx hb dXM_arrive_65 (by decide) (fun c13 => ?_) (fun c13 => ?_)
        · replace h := h.1 c13
          exact sMarrive_79  C0  I_11 J_11 cn_11 cm_11 so_11 v1 v2 h H locs ls hP hS (lv_sub hl [0, 1, 2] rfl)
        · replace h := h.2 c13
          refine lv_aload_n hx hb dXM_arrive_68 rfl (lv_at hl 0 rfl) ?_
          refine mg_count hx hb hown hts hK hP dXM_arrive_69 ?_
          refine lv_bipush (v := 40) hx hb dXM_arrive_72 (by decide) ?_
          refine lv_icmp_ne (tgt := 79) hx hb dXM_arrive_74 (by decide) (fun c14 => ?_) (fun c14 => ?_)
          · replace h := h.1 c14
            exact sMarrive_79  C0  I_11 J_11 cn_11 cm_11 so_11 v1 v2 h H locs ls hP hS (lv_sub hl [0, 1, 2] rfl)
          · replace h := h.2 c14
            refine lv_iconst (v := 3) hx hb dXM_arrive_77 (by decide) ?_
            exact W.iret hx hb hr (fun t ht hW => ⟨⟨_, (I_11, J_11, cn_11, cm_11, so_11), rfl, h, by rw [fxC, ht]; exact hP⟩, hS.F ht⟩) hS.2.2 dXM_arrive_78 hlocks
    · replace h := h.2 c10
      refine lv_aload_n hx hb dXM_arrive_50 rfl (lv_at hl 0 rfl) ?_
      refine lv_iload_n hx hb dXM_arrive_51 rfl (lv_at hl 1 rfl) ?_
      refine va_callv (va_runV (As := [.int v1]) (rest := []) ⟨hx, hb, hml, hown, hts⟩ (cMwaitAt hD h) (fx_cwV 1 hts gw_M_116 hdXM_waitAt ⟨Nat.le_of_ble_eq_true rfl, Nat.le_of_ble_eq_true rfl⟩) (fx_preV (m_recv hK hP) hP hK hN) rfl rfl hl.1 rfl (lv_room (Nat.le_of_ble_eq_true rfl)) dXM_arrive_52 ⟨Nat.le_of_ble_eq_true rfl, Nat.le_of_ble_eq_true rfl⟩) hS (fun _ _ q => q) (fun _ q => q) (fun u t H locs ht hvm h hP hz hk hS => ?_)
      rw [fxC, ht] at hP
      obtain ⟨I_15, J_15, cn_15, cm_15, so_15⟩ := u
      dsimp only at h
      refine lv_iconst (v := 2) hx hb dXM_arrive_55 (by decide) ?_
      exact W.iret hx hb hr (fun t ht hW => ⟨⟨_, (I_15, J_15, cn_15, cm_15, so_15), rfl, h, by rw [fxC, ht]; exact hP⟩, hS.F ht⟩) hS.2.2 dXM_arrive_56 hlocks
  · replace h := h.2 c8
    refine lv_iconst (v := 3) hx hb dXM_arrive_40 (by decide) ?_
    exact W.iret hx hb hr (fun t ht hW => ⟨⟨_, (I_7, J_7, cn_7, cm_7, so_7), rfl, h, by rw [fxC, ht]; exact hP⟩, hS.F ht⟩) hS.2.2 dXM_arrive_41 hlocks
set_option maxRecDepth 100000 in
set_option maxHeartbeats 4000000 in
theorem sMarrive_in {p : Program} {l : Launch} {e : Env} {s : State} {m : MethodId} {args : Array Value} {below : List Frame} {meth : Method} {c : Code} {D : va_G} {A : Nat → Prop} {h0 : Nat} {ad : Nat → Nat} {cI cL : ClassId} {post : Int32 → (Nat → Nat → Int32) → (Nat → Nat → Int64) → Int32 → Int64 → Int32 → Prop} (C0 : mCx p s m args meth c D A h0 ad cI cL cXM_arrive 4 (some .int)) : ∀ (I : Nat → Nat → Int32) (J : Nat → Nat → Int64) (cn : Int32) (cm : Int64) (so : Int32) (a1 : Int32), wMarrive post I J cn cm so a1 → ∀ (H : Heap) (locs : List Loc) (ls : Array Slot), mW D h0 ad cI cL (I, J, cn, cm, so) H → va_S A s.heap H locs → lv_has ls 4 [(0, .ref h0), (1, .int a1)] → W p l e ({ frames := 3, cells := 0, slots := 0, locals := 75 } : Room) s m args below meth c H locs 0 0 (MQ below (va_Qi (fun (r : Int32) (u : mS) => post r u.1 u.2.1 u.2.2.1 u.2.2.2.1 u.2.2.2.2) (fxC (mW D h0 ad cI cL)) A) args s 0 0 A) (F0 m 0 ls []) := by
  obtain ⟨hx, hb, hr, hml, hown, hts, hlocks, hK, hN, hD⟩ := id C0
  intro I J cn cm so a1 h H locs ls hP hS hl
  replace h : (wMfind (fun r1 I_1 J_1 cn_1 cm_1 so_1 => (vp_in a1 4 ∧ (wMin (fun r3 I_3 J_3 cn_3 cm_3 so_3 => ((r3 = 0 → ((r1 < 0 → (wMarrive_33 post  I_3 J_3 cn_3 cm_3 so_3 a1 r1)) ∧ (¬ r1 < 0 → (wMbecome (fun I_6 J_6 cn_6 cm_6 so_6 => (wMarrive_33 post  I_6 J_6 cn_6 cm_6 so_6 a1 r1)) I_3 J_3 cn_3 cm_3 so_3 r1)))) ∧ (¬ r3 = 0 → (post 0 I_3 J_3 cn_3 cm_3 so_3)))) I_1 J_1 cn_1 cm_1 so_1 (J_1 3 (Int32.toNatClampNeg a1)) r1))) I J cn cm so cm) := h
  refine lv_aload_n hx hb dXM_arrive_0 rfl (lv_at hl 0 rfl) ?_
  refine lv_aload_n hx hb dXM_arrive_1 rfl (lv_at hl 0 rfl) ?_
  refine mg_coming hx hb hown hts hK hP dXM_arrive_2 ?_
  refine va_calli (va_runV (As := [.long cm]) (rest := []) ⟨hx, hb, hml, hown, hts⟩ (cMfind hD h) (fx_cwV 1 hts gw_M_84 hdXM_find ⟨Nat.le_of_ble_eq_true rfl, Nat.le_of_ble_eq_true rfl⟩) (fx_preV (m_recv hK hP) hP hK hN) rfl rfl hl.1 rfl (lv_room (Nat.le_of_ble_eq_true rfl)) dXM_arrive_5 ⟨Nat.le_of_ble_eq_true rfl, Nat.le_of_ble_eq_true rfl⟩) hS (fun _ _ q => q) (fun _ q => q) (fun r1 u t H locs ht hvm h hP hz hk hS => ?_)
  rw [fxC, ht] at hP
  obtain ⟨I_1, J_1, cn_1, cm_1, so_1⟩ := u
  dsimp only at h
  refine lv_istore_n (lv' := [(2, .int r1), (0, .ref h0), (1, .int a1)]) hx hb dXM_arrive_8 rfl hl (by decide) rfl (fun ls hl => ?_)
  refine lv_aload_n hx hb dXM_arrive_9 rfl (lv_at hl 1 rfl) ?_
  refine mg_holds hx hb hown hts hK hP dXM_arrive_10 ?_
  refine lv_iload_n hx hb dXM_arrive_13 rfl (lv_at hl 2 rfl) ?_
  obtain ⟨h2, h⟩ := h
  refine ma_9 hx hb hK hP h2 dXM_arrive_14 ?_
  refine lv_iload_n hx hb dXM_arrive_15 rfl (lv_at hl 0 rfl) ?_
  refine va_calli (va_runS (As := [.long (J_1 3 (Int32.toNatClampNeg a1)), .int r1]) (rest := []) ⟨hx, hb, hml, hown, hts⟩ (cMin hD h) (fx_cwS 2 hts gw_M_88 hdXM_in ⟨Nat.le_of_ble_eq_true rfl, Nat.le_of_ble_eq_true rfl⟩) (fx_preS hP hK hN) rfl rfl hl.1 rfl (lv_room (Nat.le_of_ble_eq_true rfl)) dXM_arrive_16 ⟨Nat.le_of_ble_eq_true rfl, Nat.le_of_ble_eq_true rfl⟩) hS (fun _ _ q => q) (fun _ q => q) (fun r3 u t H locs ht hvm h hP hz hk hS => ?_)
  rw [fxC, ht] at hP
  obtain ⟨I_3, J_3, cn_3, cm_3, so_3⟩ := u
  dsimp only at h
  refine lv_if_eq (tgt := 24) hx hb dXM_arrive_19 (by decide) (fun c4 => ?_) (fun c4 => ?_)
  · replace h := h.1 c4
    refine lv_iload_n hx hb dXM_arrive_24 rfl (lv_at hl 0 rfl) ?_
    refine lv_if_lt (tgt := 33) hx hb dXM_arrive_25 (by decide) (fun c5 => ?_) (fun c5 => ?_)
    · replace h := h.1 c5
      exact sMarrive_33  C0  I_3 J_3 cn_3 cm_3 so_3 a1 r1 h H locs ls hP hS (lv_sub hl [1, 2, 0] rfl)
    · replace h := h.2 c5
      refine lv_aload_n hx hb dXM_arrive_28 rfl (lv_at hl 1 rfl) ?_
      refine lv_iload_n hx hb dXM_arrive_29 rfl (lv_at hl 0 rfl) ?_
      refine va_callv (va_runV (As := [.int r1]) (rest := []) ⟨hx, hb, hml, hown, hts⟩ (cMbecome hD h) (fx_cwV 1 hts gw_M_104 hdXM_become ⟨Nat.le_of_ble_eq_true rfl, Nat.le_of_ble_eq_true rfl⟩) (fx_preV (m_recv hK hP) hP hK hN) rfl rfl hl.1 rfl (lv_room (Nat.le_of_ble_eq_true rfl)) dXM_arrive_30 ⟨Nat.le_of_ble_eq_true rfl, Nat.le_of_ble_eq_true rfl⟩) hS (fun _ _ q => q) (fun _ q => q) (fun u t H locs ht hvm h hP hz hk hS => ?_)
      rw [fxC, ht] at hP
      obtain ⟨I_6, J_6, cn_6, cm_6, so_6⟩ := u
      dsimp only at h
      exact sMarrive_33  C0  I_6 J_6 cn_6 cm_6 so_6 a1 r1 h H locs ls hP hS (lv_sub hl [1, 2, 0] rfl)
  · replace h := h.2 c4
    refine lv_iconst (v := 0) hx hb dXM_arrive_22 (by decide) ?_
    exact W.iret hx hb hr (fun t ht hW => ⟨⟨_, (I_3, J_3, cn_3, cm_3, so_3), rfl, h, by rw [fxC, ht]; exact hP⟩, hS.F ht⟩) hS.2.2 dXM_arrive_23 hlocks
set_option maxRecDepth 100000 in
set_option maxHeartbeats 4000000 in
theorem cMarrive {l : Launch} {D : va_G} {A : Nat → Prop} {h0 : Nat} {ad : Nat → Nat} {cI cL : ClassId} (hD : mDs A h0 ad cI cL) {post : Int32 → (Nat → Nat → Int32) → (Nat → Nat → Int64) → Int32 → Int64 → Int32 → Prop} {I : Nat → Nat → Int32} {J : Nat → Nat → Int64} {cn : Int32} {cm : Int64} {so : Int32} {a1 : Int32} (h : wMarrive post I J cn cm so a1) : Met l yXM_arrive (.code yXM_arrive cXM_arrive 4 (some .int) :: lg_tbl) ({ frames := 3, cells := 0, slots := 0, locals := 75 } : Room) (va_Pc [.ref h0, .int a1] (fxB (mW D h0 ad cI cL (I, J, cn, cm, so)) D vwCl (mTy cI cL))) (va_Qi (fun (r : Int32) (u : mS) => post r u.1 u.2.1 u.2.2.1 u.2.2.2.1 u.2.2.2.2) (fxC (mW D h0 ad cI cL)) A) 0 0 A := by
  refine fx_start (by decide +kernel) (Nat.le_of_ble_eq_true rfl) ?_
  intro p e s m below meth c ls hx hb hr hml hown hts hlocks hnm hB hl
  exact sMarrive_in ⟨hx, hb, hr, hml, hown, hts, hlocks, hB.2.1, hB.2.2, hD⟩ I J cn cm so a1 h _ _ ls hB.1 va_S.rf hl
noncomputable def wMload_41 (post : (Nat → Nat → Int32) → (Nat → Nat → Int64) → Int32 → Int64 → Int32 → Prop) (n : Nat) : (Nat → Nat → Int32) → (Nat → Nat → Int64) → Int32 → Int64 → Int32 → Int32 → Int32 → Prop := Nat.rec (motive := fun _ => (Nat → Nat → Int32) → (Nat → Nat → Int64) → Int32 → Int64 → Int32 → Int32 → Int32 → Prop) (fun _ _ _ _ _ _ _ => False) (fun _ K41 I J cn cm so v1 v2 => ((4 ≤ v2 → (post I J cn cm so)) ∧ (¬ 4 ≤ v2 → (vp_in ((4 * v1) + v2) 96 ∧ (vp_in v2 4 ∧ ∀ J9, J9 = mj_up J 7 (Int32.toNatClampNeg v2) (J 5 (Int32.toNatClampNeg ((4 * v1) + v2))) → (K41 I J9 cn cm so v1 (v2 + 1))))))) n
noncomputable def wMload_12 (post : (Nat → Nat → Int32) → (Nat → Nat → Int64) → Int32 → Int64 → Int32 → Prop) (n : Nat) : (Nat → Nat → Int32) → (Nat → Nat → Int64) → Int32 → Int64 → Int32 → Int32 → Int32 → Prop := Nat.rec (motive := fun _ => (Nat → Nat → Int32) → (Nat → Nat → Int64) → Int32 → Int64 → Int32 → Int32 → Int32 → Prop) (fun _ _ _ _ _ _ _ => False) (fun _ K12 I J cn cm so v1 v2 => ((5 ≤ v2 → (∃ k, wMload_41 post  k I J cn cm so v1 0)) ∧ (¬ 5 ≤ v2 → (vp_in ((5 * v1) + v2) 120 ∧ (vp_in v2 5 ∧ ∀ I5, I5 = mi_up I 9 (Int32.toNatClampNeg v2) (I 7 (Int32.toNatClampNeg ((5 * v1) + v2))) → (K12 I5 J cn cm so v1 (v2 + 1))))))) n
def wMload (post : (Nat → Nat → Int32) → (Nat → Nat → Int64) → Int32 → Int64 → Int32 → Prop) (I : Nat → Nat → Int32) (J : Nat → Nat → Int64) (cn : Int32) (cm : Int64) (so : Int32) (a1 : Int32) : Prop := (vp_in a1 24 ∧ ∀ x2, x2 = J 4 (Int32.toNatClampNeg a1) → (∃ k, wMload_12 post  k I J cn x2 so a1 0))
set_option maxRecDepth 100000 in
set_option maxHeartbeats 4000000 in
theorem sMload_41 {p : Program} {l : Launch} {e : Env} {s : State} {m : MethodId} {args : Array Value} {below : List Frame} {meth : Method} {c : Code} {D : va_G} {A : Nat → Prop} {h0 : Nat} {ad : Nat → Nat} {cI cL : ClassId} {post : (Nat → Nat → Int32) → (Nat → Nat → Int64) → Int32 → Int64 → Int32 → Prop} (C0 : mCx p s m args meth c D A h0 ad cI cL cXM_load 3 none) : ∀ (n : Nat) (I : Nat → Nat → Int32) (J : Nat → Nat → Int64) (cn : Int32) (cm : Int64) (so : Int32) (v1 : Int32) (v2 : Int32), wMload_41 post  n I J cn cm so v1 v2 → ∀ (H : Heap) (locs : List Loc) (ls : Array Slot), mW D h0 ad cI cL (I, J, cn, cm, so) H → va_S A s.heap H locs → lv_has ls 3 [(0, .ref h0), (1, .int v1), (2, .int v2)] → W p l e ({ frames := 0, cells := 0, slots := 0, locals := 0 } : Room) s m args below meth c H locs 0 0 (MQ below (va_Qv (fun (u : mS) => post u.1 u.2.1 u.2.2.1 u.2.2.2.1 u.2.2.2.2) (fxC (mW D h0 ad cI cL)) A) args s 0 0 A) (F0 m 41 ls []) := by
  obtain ⟨hx, hb, hr, hml, hown, hts, hlocks, hK, hN, hD⟩ := id C0
  intro n
  induction n with
  | zero => exact fun _ _ _ _ _ _ _ h => h.elim
  | succ n hK41 =>
    intro I J cn cm so v1 v2 h H locs ls hP hS hl
    replace h : ((4 ≤ v2 → (post I J cn cm so)) ∧ (¬ 4 ≤ v2 → (vp_in ((4 * v1) + v2) 96 ∧ (vp_in v2 4 ∧ ∀ J9, J9 = mj_up J 7 (Int32.toNatClampNeg v2) (J 5 (Int32.toNatClampNeg ((4 * v1) + v2))) → ((wMload_41 post  n) I J9 cn cm so v1 (v2 + 1)))))) := h
    refine lv_iload_n hx hb dXM_load_41 rfl (lv_at hl 2 rfl) ?_
    refine lv_iconst (v := 4) hx hb dXM_load_42 (by decide) ?_
    refine lv_icmp_ge (tgt := 68) hx hb dXM_load_43 (by decide) (fun c7 => ?_) (fun c7 => ?_)
    · replace h := h.1 c7
      exact W.vret hx hb hr (fun t ht hW => ⟨⟨(I, J, cn, cm, so), rfl, h, by rw [fxC, ht]; exact hP⟩, hS.F ht⟩) hS.2.2 dXM_load_68 hlocks
    · replace h := h.2 c7
      refine lv_aload_n hx hb dXM_load_46 rfl (lv_at hl 0 rfl) ?_
      refine mg_comingLink hx hb hown hts hK hP dXM_load_47 ?_
      refine lv_iload_n hx hb dXM_load_50 rfl (lv_at hl 2 rfl) ?_
      refine lv_aload_n hx hb dXM_load_51 rfl (lv_at hl 0 rfl) ?_
      refine mg_waitLink hx hb hown hts hK hP dXM_load_52 ?_
      refine lv_iconst (v := 4) hx hb dXM_load_55 (by decide) ?_
      refine lv_iload_n hx hb dXM_load_56 rfl (lv_at hl 1 rfl) ?_
      refine lv_imul hx hb dXM_load_57 ?_
      refine lv_iload_n hx hb dXM_load_58 rfl (lv_at hl 2 rfl) ?_
      refine lv_iadd hx hb dXM_load_59 ?_
      obtain ⟨h8, h⟩ := h
      refine ma_13 hx hb hK hP h8 dXM_load_60 ?_
      obtain ⟨h10, h⟩ := h
      obtain ⟨J9, eJ9⟩ : ∃ y, y = mj_up J 7 (Int32.toNatClampNeg v2) (J 5 (Int32.toNatClampNeg ((4 * v1) + v2))) := ⟨_, rfl⟩
      replace h := h J9 eJ9
      refine ms_17 hx hb hK hD hP hS h10 dXM_load_61 (fun H locs hP hS => ?_)
      rw [← eJ9] at hP
      refine lv_iinc (v := v2 + 1) (lv' := [(2, .int (v2 + 1)), (0, .ref h0), (1, .int v1)]) hx hb dXM_load_62 hl (k := 2) rfl rfl (by decide) rfl (fun ls hl => ?_)
      refine lv_goto (tgt := 41) hx hb dXM_load_65 (by decide) ?_
      exact hK41 I J9 cn cm so v1 (v2 + 1) h H locs ls hP hS (lv_sub hl [1, 2, 0] rfl)
set_option maxRecDepth 100000 in
set_option maxHeartbeats 4000000 in
theorem sMload_12 {p : Program} {l : Launch} {e : Env} {s : State} {m : MethodId} {args : Array Value} {below : List Frame} {meth : Method} {c : Code} {D : va_G} {A : Nat → Prop} {h0 : Nat} {ad : Nat → Nat} {cI cL : ClassId} {post : (Nat → Nat → Int32) → (Nat → Nat → Int64) → Int32 → Int64 → Int32 → Prop} (C0 : mCx p s m args meth c D A h0 ad cI cL cXM_load 3 none) : ∀ (n : Nat) (I : Nat → Nat → Int32) (J : Nat → Nat → Int64) (cn : Int32) (cm : Int64) (so : Int32) (v1 : Int32) (v2 : Int32), wMload_12 post  n I J cn cm so v1 v2 → ∀ (H : Heap) (locs : List Loc) (ls : Array Slot), mW D h0 ad cI cL (I, J, cn, cm, so) H → va_S A s.heap H locs → lv_has ls 3 [(0, .ref h0), (1, .int v1), (2, .int v2)] → W p l e ({ frames := 0, cells := 0, slots := 0, locals := 0 } : Room) s m args below meth c H locs 0 0 (MQ below (va_Qv (fun (u : mS) => post u.1 u.2.1 u.2.2.1 u.2.2.2.1 u.2.2.2.2) (fxC (mW D h0 ad cI cL)) A) args s 0 0 A) (F0 m 12 ls []) := by
  obtain ⟨hx, hb, hr, hml, hown, hts, hlocks, hK, hN, hD⟩ := id C0
  intro n
  induction n with
  | zero => exact fun _ _ _ _ _ _ _ h => h.elim
  | succ n hK12 =>
    intro I J cn cm so v1 v2 h H locs ls hP hS hl
    replace h : ((5 ≤ v2 → (∃ k, wMload_41 post  k I J cn cm so v1 0)) ∧ (¬ 5 ≤ v2 → (vp_in ((5 * v1) + v2) 120 ∧ (vp_in v2 5 ∧ ∀ I5, I5 = mi_up I 9 (Int32.toNatClampNeg v2) (I 7 (Int32.toNatClampNeg ((5 * v1) + v2))) → ((wMload_12 post  n) I5 J cn cm so v1 (v2 + 1)))))) := h
    refine lv_iload_n hx hb dXM_load_12 rfl (lv_at hl 2 rfl) ?_
    refine lv_iconst (v := 5) hx hb dXM_load_13 (by decide) ?_
    refine lv_icmp_ge (tgt := 39) hx hb dXM_load_14 (by decide) (fun c3 => ?_) (fun c3 => ?_)
    · replace h := h.1 c3
      refine lv_iconst (v := 0) hx hb dXM_load_39 (by decide) ?_
      refine lv_istore_n (lv' := [(2, .int 0), (0, .ref h0), (1, .int v1)]) hx hb dXM_load_40 rfl hl (by decide) rfl (fun ls hl => ?_)
      obtain ⟨k, h⟩ := h
      exact sMload_41  C0  k I J cn cm so v1 0 h H locs ls hP hS (lv_sub hl [1, 2, 0] rfl)
    · replace h := h.2 c3
      refine lv_aload_n hx hb dXM_load_17 rfl (lv_at hl 0 rfl) ?_
      refine mg_numbers hx hb hown hts hK hP dXM_load_18 ?_
      refine lv_iload_n hx hb dXM_load_21 rfl (lv_at hl 2 rfl) ?_
      refine lv_aload_n hx hb dXM_load_22 rfl (lv_at hl 0 rfl) ?_
      refine mg_waitNumbers hx hb hown hts hK hP dXM_load_23 ?_
      refine lv_iconst (v := 5) hx hb dXM_load_26 (by decide) ?_
      refine lv_iload_n hx hb dXM_load_27 rfl (lv_at hl 1 rfl) ?_
      refine lv_imul hx hb dXM_load_28 ?_
      refine lv_iload_n hx hb dXM_load_29 rfl (lv_at hl 2 rfl) ?_
      refine lv_iadd hx hb dXM_load_30 ?_
      obtain ⟨h4, h⟩ := h
      refine ma_12 hx hb hK hP h4 dXM_load_31 ?_
      obtain ⟨h6, h⟩ := h
      obtain ⟨I5, eI5⟩ : ∃ y, y = mi_up I 9 (Int32.toNatClampNeg v2) (I 7 (Int32.toNatClampNeg ((5 * v1) + v2))) := ⟨_, rfl⟩
      replace h := h I5 eI5
      refine ms_16 hx hb hK hD hP hS h6 dXM_load_32 (fun H locs hP hS => ?_)
      rw [← eI5] at hP
      refine lv_iinc (v := v2 + 1) (lv' := [(2, .int (v2 + 1)), (0, .ref h0), (1, .int v1)]) hx hb dXM_load_33 hl (k := 2) rfl rfl (by decide) rfl (fun ls hl => ?_)
      refine lv_goto (tgt := 12) hx hb dXM_load_36 (by decide) ?_
      exact hK12 I5 J cn cm so v1 (v2 + 1) h H locs ls hP hS (lv_sub hl [1, 2, 0] rfl)
set_option maxRecDepth 100000 in
set_option maxHeartbeats 4000000 in
theorem sMload_in {p : Program} {l : Launch} {e : Env} {s : State} {m : MethodId} {args : Array Value} {below : List Frame} {meth : Method} {c : Code} {D : va_G} {A : Nat → Prop} {h0 : Nat} {ad : Nat → Nat} {cI cL : ClassId} {post : (Nat → Nat → Int32) → (Nat → Nat → Int64) → Int32 → Int64 → Int32 → Prop} (C0 : mCx p s m args meth c D A h0 ad cI cL cXM_load 3 none) : ∀ (I : Nat → Nat → Int32) (J : Nat → Nat → Int64) (cn : Int32) (cm : Int64) (so : Int32) (a1 : Int32), wMload post I J cn cm so a1 → ∀ (H : Heap) (locs : List Loc) (ls : Array Slot), mW D h0 ad cI cL (I, J, cn, cm, so) H → va_S A s.heap H locs → lv_has ls 3 [(0, .ref h0), (1, .int a1)] → W p l e ({ frames := 0, cells := 0, slots := 0, locals := 0 } : Room) s m args below meth c H locs 0 0 (MQ below (va_Qv (fun (u : mS) => post u.1 u.2.1 u.2.2.1 u.2.2.2.1 u.2.2.2.2) (fxC (mW D h0 ad cI cL)) A) args s 0 0 A) (F0 m 0 ls []) := by
  obtain ⟨hx, hb, hr, hml, hown, hts, hlocks, hK, hN, hD⟩ := id C0
  intro I J cn cm so a1 h H locs ls hP hS hl
  replace h : (vp_in a1 24 ∧ ∀ x2, x2 = J 4 (Int32.toNatClampNeg a1) → (∃ k, wMload_12 post  k I J cn x2 so a1 0)) := h
  refine lv_aload_n hx hb dXM_load_0 rfl (lv_at hl 0 rfl) ?_
  refine lv_aload_n hx hb dXM_load_1 rfl (lv_at hl 0 rfl) ?_
  refine mg_waitHash hx hb hown hts hK hP dXM_load_2 ?_
  refine lv_iload_n hx hb dXM_load_5 rfl (lv_at hl 1 rfl) ?_
  obtain ⟨h1, h⟩ := h
  refine ma_11 hx hb hK hP h1 dXM_load_6 ?_
  refine lv_topl (fun x2 ex2 => ?_)
  replace h := h x2 ex2
  refine mp_coming hx hb hown hts hK hD hP hS dXM_load_7 (fun H locs hP hS => ?_)
  refine lv_iconst (v := 0) hx hb dXM_load_10 (by decide) ?_
  refine lv_istore_n (lv' := [(2, .int 0), (0, .ref h0), (1, .int a1)]) hx hb dXM_load_11 rfl hl (by decide) rfl (fun ls hl => ?_)
  obtain ⟨k, h⟩ := h
  exact sMload_12  C0  k I J cn x2 so a1 0 h H locs ls hP hS (lv_sub hl [1, 2, 0] rfl)
set_option maxRecDepth 100000 in
set_option maxHeartbeats 4000000 in
theorem cMload {l : Launch} {D : va_G} {A : Nat → Prop} {h0 : Nat} {ad : Nat → Nat} {cI cL : ClassId} (hD : mDs A h0 ad cI cL) {post : (Nat → Nat → Int32) → (Nat → Nat → Int64) → Int32 → Int64 → Int32 → Prop} {I : Nat → Nat → Int32} {J : Nat → Nat → Int64} {cn : Int32} {cm : Int64} {so : Int32} {a1 : Int32} (h : wMload post I J cn cm so a1) : Met l yXM_load (.code yXM_load cXM_load 3 none :: lg_tbl) ({ frames := 0, cells := 0, slots := 0, locals := 0 } : Room) (va_Pc [.ref h0, .int a1] (fxB (mW D h0 ad cI cL (I, J, cn, cm, so)) D vwCl (mTy cI cL))) (va_Qv (fun (u : mS) => post u.1 u.2.1 u.2.2.1 u.2.2.2.1 u.2.2.2.2) (fxC (mW D h0 ad cI cL)) A) 0 0 A := by
  refine fx_start (by decide +kernel) (Nat.le_of_ble_eq_true rfl) ?_
  intro p e s m below meth c ls hx hb hr hml hown hts hlocks hnm hB hl
  exact sMload_in ⟨hx, hb, hr, hml, hown, hts, hlocks, hB.2.1, hB.2.2, hD⟩ I J cn cm so a1 h _ _ ls hB.1 va_S.rf hl
noncomputable def wMcome_8 (post : Int32 → (Nat → Nat → Int32) → (Nat → Nat → Int64) → Int32 → Int64 → Int32 → Prop) (n : Nat) : (Nat → Nat → Int32) → (Nat → Nat → Int64) → Int32 → Int64 → Int32 → Int32 → Int32 → Int32 → Prop := Nat.rec (motive := fun _ => (Nat → Nat → Int32) → (Nat → Nat → Int64) → Int32 → Int64 → Int32 → Int32 → Int32 → Int32 → Prop) (fun _ _ _ _ _ _ _ _ => False) (fun _ K8 I J cn cm so v1 v2 v3 => (vp_in v1 4 ∧ (((I 6 (Int32.toNatClampNeg v1)) ≤ v3 → (post v2 I J cn cm so)) ∧ (¬ (I 6 (Int32.toNatClampNeg v1)) ≤ v3 → (wMload (fun I_4 J_4 cn_4 cm_4 so_4 => (wMlinksHeld (fun r5 I_5 J_5 cn_5 cm_5 so_5 => ((r5 = 0 → (K8 I_5 J_5 cn_5 cm_5 so_5 v1 v2 (v3 + 1))) ∧ (¬ r5 = 0 → (wMleave (fun I_7 J_7 cn_7 cm_7 so_7 => (wMarrive (fun r8 I_8 J_8 cn_8 cm_8 so_8 => (K8 I_8 J_8 cn_8 cm_8 so_8 v1 v2 0)) I_7 J_7 cn_7 cm_7 so_7 v1)) I_5 J_5 cn_5 cm_5 so_5 v1 v3)))) I_4 J_4 cn_4 cm_4 so_4 v1)) I J cn cm so ((6 * v1) + v3)))))) n
def wMcome (post : Int32 → (Nat → Nat → Int32) → (Nat → Nat → Int64) → Int32 → Int64 → Int32 → Prop) (I : Nat → Nat → Int32) (J : Nat → Nat → Int64) (cn : Int32) (cm : Int64) (so : Int32) (a1 : Int32) : Prop := (wMarrive (fun r1 I_1 J_1 cn_1 cm_1 so_1 => (∃ k, wMcome_8 post  k I_1 J_1 cn_1 cm_1 so_1 a1 r1 0)) I J cn cm so a1)
set_option maxRecDepth 100000 in
set_option maxHeartbeats 4000000 in
theorem sMcome_8 {p : Program} {l : Launch} {e : Env} {s : State} {m : MethodId} {args : Array Value} {below : List Frame} {meth : Method} {c : Code} {D : va_G} {A : Nat → Prop} {h0 : Nat} {ad : Nat → Nat} {cI cL : ClassId} {post : Int32 → (Nat → Nat → Int32) → (Nat → Nat → Int64) → Int32 → Int64 → Int32 → Prop} (C0 : mCx p s m args meth c D A h0 ad cI cL cXM_come 4 (some .int)) : ∀ (n : Nat) (I : Nat → Nat → Int32) (J : Nat → Nat → Int64) (cn : Int32) (cm : Int64) (so : Int32) (v1 : Int32) (v2 : Int32) (v3 : Int32), wMcome_8 post  n I J cn cm so v1 v2 v3 → ∀ (H : Heap) (locs : List Loc) (ls : Array Slot), mW D h0 ad cI cL (I, J, cn, cm, so) H → va_S A s.heap H locs → lv_has ls 4 [(0, .ref h0), (1, .int v1), (2, .int v2), (3, .int v3)] → W p l e ({ frames := 4, cells := 0, slots := 0, locals := 98 } : Room) s m args below meth c H locs 0 0 (MQ below (va_Qi (fun (r : Int32) (u : mS) => post r u.1 u.2.1 u.2.2.1 u.2.2.2.1 u.2.2.2.2) (fxC (mW D h0 ad cI cL)) A) args s 0 0 A) (F0 m 8 ls []) := by
  obtain ⟨hx, hb, hr, hml, hown, hts, hlocks, hK, hN, hD⟩ := id C0
  intro n
  induction n with
  | zero => exact fun _ _ _ _ _ _ _ _ h => h.elim
  | succ n hK8 =>
    intro I J cn cm so v1 v2 v3 h H locs ls hP hS hl
    replace h : (vp_in v1 4 ∧ (((I 6 (Int32.toNatClampNeg v1)) ≤ v3 → (post v2 I J cn cm so)) ∧ (¬ (I 6 (Int32.toNatClampNeg v1)) ≤ v3 → (wMload (fun I_4 J_4 cn_4 cm_4 so_4 => (wMlinksHeld (fun r5 I_5 J_5 cn_5 cm_5 so_5 => ((r5 = 0 → ((wMcome_8 post  n) I_5 J_5 cn_5 cm_5 so_5 v1 v2 (v3 + 1))) ∧ (¬ r5 = 0 → (wMleave (fun I_7 J_7 cn_7 cm_7 so_7 => (wMarrive (fun r8 I_8 J_8 cn_8 cm_8 so_8 => ((wMcome_8 post  n) I_8 J_8 cn_8 cm_8 so_8 v1 v2 0)) I_7 J_7 cn_7 cm_7 so_7 v1)) I_5 J_5 cn_5 cm_5 so_5 v1 v3)))) I_4 J_4 cn_4 cm_4 so_4 v1)) I J cn cm so ((6 * v1) + v3))))) := h
    refine lv_iload_n hx hb dXM_come_8 rfl (lv_at hl 3 rfl) ?_
    refine lv_aload_n hx hb dXM_come_9 rfl (lv_at hl 0 rfl) ?_
    refine mg_waits hx hb hown hts hK hP dXM_come_10 ?_
    refine lv_iload_n hx hb dXM_come_13 rfl (lv_at hl 1 rfl) ?_
    obtain ⟨h2, h⟩ := h
    refine ma_10 hx hb hK hP h2 dXM_come_14 ?_
    refine lv_icmp_ge (tgt := 59) hx hb dXM_come_15 (by decide) (fun c3 => ?_) (fun c3 => ?_)
    · replace h := h.1 c3
      refine lv_iload_n hx hb dXM_come_59 rfl (lv_at hl 2 rfl) ?_
      exact W.iret hx hb hr (fun t ht hW => ⟨⟨_, (I, J, cn, cm, so), rfl, h, by rw [fxC, ht]; exact hP⟩, hS.F ht⟩) hS.2.2 dXM_come_60 hlocks
    · replace h := h.2 c3
      refine lv_aload_n hx hb dXM_come_18 rfl (lv_at hl 0 rfl) ?_
      refine lv_bipush (v := 6) hx hb dXM_come_19 (by decide) ?_
      refine lv_iload_n hx hb dXM_come_21 rfl (lv_at hl 1 rfl) ?_
      refine lv_imul hx hb dXM_come_22 ?_
      refine lv_iload_n hx hb dXM_come_23 rfl (lv_at hl 3 rfl) ?_
      refine lv_iadd hx hb dXM_come_24 ?_
      refine va_callv (va_runV (As := [.int ((6 * v1) + v3)]) (rest := []) ⟨hx, hb, hml, hown, hts⟩ (cMload hD h) (fx_cwV 1 hts gw_M_129 hdXM_load ⟨Nat.le_of_ble_eq_true rfl, Nat.le_of_ble_eq_true rfl⟩) (fx_preV (m_recv hK hP) hP hK hN) rfl rfl hl.1 rfl (lv_room (Nat.le_of_ble_eq_true rfl)) dXM_come_25 ⟨Nat.le_of_ble_eq_true rfl, Nat.le_of_ble_eq_true rfl⟩) hS (fun _ _ q => q) (fun _ q => q) (fun u t H locs ht hvm h hP hz hk hS => ?_)
      rw [fxC, ht] at hP
      obtain ⟨I_4, J_4, cn_4, cm_4, so_4⟩ := u
      dsimp only at h
      refine lv_aload_n hx hb dXM_come_28 rfl (lv_at hl 0 rfl) ?_
      refine lv_iload_n hx hb dXM_come_29 rfl (lv_at hl 1 rfl) ?_
      refine va_calli (va_runV (As := [.int v1]) (rest := []) ⟨hx, hb, hml, hown, hts⟩ (cMlinksHeld hD h) (fx_cwV 1 hts gw_M_112 hdXM_linksHeld ⟨Nat.le_of_ble_eq_true rfl, Nat.le_of_ble_eq_true rfl⟩) (fx_preV (m_recv hK hP) hP hK hN) rfl rfl hl.1 rfl (lv_room (Nat.le_of_ble_eq_true rfl)) dXM_come_30 ⟨Nat.le_of_ble_eq_true rfl, Nat.le_of_ble_eq_true rfl⟩) hS (fun _ _ q => q) (fun _ q => q) (fun r5 u t H locs ht hvm h hP hz hk hS => ?_)
      rw [fxC, ht] at hP
      obtain ⟨I_5, J_5, cn_5, cm_5, so_5⟩ := u
      dsimp only at h
      refine lv_if_eq (tgt := 53) hx hb dXM_come_33 (by decide) (fun c6 => ?_) (fun c6 => ?_)
      · replace h := h.1 c6
        refine lv_iinc (v := v3 + 1) (lv' := [(3, .int (v3 + 1)), (0, .ref h0), (1, .int v1), (2, .int v2)]) hx hb dXM_come_53 hl (k := 3) rfl rfl (by decide) rfl (fun ls hl => ?_)
        refine lv_goto (tgt := 8) hx hb dXM_come_56 (by decide) ?_
        exact hK8 I_5 J_5 cn_5 cm_5 so_5 v1 v2 (v3 + 1) h H locs ls hP hS (lv_sub hl [1, 2, 3, 0] rfl)
      · replace h := h.2 c6
        refine lv_aload_n hx hb dXM_come_36 rfl (lv_at hl 0 rfl) ?_
        refine lv_iload_n hx hb dXM_come_37 rfl (lv_at hl 1 rfl) ?_
        refine lv_iload_n hx hb dXM_come_38 rfl (lv_at hl 3 rfl) ?_
        refine va_callv (va_runV (As := [.int v1, .int v3]) (rest := []) ⟨hx, hb, hml, hown, hts⟩ (cMleave hD h) (fx_cwV 2 hts gw_M_100 hdXM_leave ⟨Nat.le_of_ble_eq_true rfl, Nat.le_of_ble_eq_true rfl⟩) (fx_preV (m_recv hK hP) hP hK hN) rfl rfl hl.1 rfl (lv_room (Nat.le_of_ble_eq_true rfl)) dXM_come_39 ⟨Nat.le_of_ble_eq_true rfl, Nat.le_of_ble_eq_true rfl⟩) hS (fun _ _ q => q) (fun _ q => q) (fun u t H locs ht hvm h hP hz hk hS => ?_)
        rw [fxC, ht] at hP
        obtain ⟨I_7, J_7, cn_7, cm_7, so_7⟩ := u
        dsimp only at h
        refine lv_aload_n hx hb dXM_come_42 rfl (lv_at hl 0 rfl) ?_
        refine lv_iload_n hx hb dXM_come_43 rfl (lv_at hl 1 rfl) ?_
        refine va_calli (va_runV (As := [.int v1]) (rest := []) ⟨hx, hb, hml, hown, hts⟩ (cMarrive hD h) (fx_cwV 1 hts gw_M_125 hdXM_arrive ⟨Nat.le_of_ble_eq_true rfl, Nat.le_of_ble_eq_true rfl⟩) (fx_preV (m_recv hK hP) hP hK hN) rfl rfl hl.1 rfl (lv_room (Nat.le_of_ble_eq_true rfl)) dXM_come_44 ⟨Nat.le_of_ble_eq_true rfl, Nat.le_of_ble_eq_true rfl⟩) hS (fun _ _ q => q) (fun _ q => q) (fun r8 u t H locs ht hvm h hP hz hk hS => ?_)
        rw [fxC, ht] at hP
        obtain ⟨I_8, J_8, cn_8, cm_8, so_8⟩ := u
        dsimp only at h
        refine lv_pop hx hb dXM_come_47 rfl ?_
        refine lv_iconst (v := 0) hx hb dXM_come_48 (by decide) ?_
        refine lv_istore_n (lv' := [(3, .int 0), (0, .ref h0), (1, .int v1), (2, .int v2)]) hx hb dXM_come_49 rfl hl (by decide) rfl (fun ls hl => ?_)
        refine lv_goto (tgt := 8) hx hb dXM_come_50 (by decide) ?_
        exact hK8 I_8 J_8 cn_8 cm_8 so_8 v1 v2 0 h H locs ls hP hS (lv_sub hl [1, 2, 3, 0] rfl)
set_option maxRecDepth 100000 in
set_option maxHeartbeats 4000000 in
theorem sMcome_in {p : Program} {l : Launch} {e : Env} {s : State} {m : MethodId} {args : Array Value} {below : List Frame} {meth : Method} {c : Code} {D : va_G} {A : Nat → Prop} {h0 : Nat} {ad : Nat → Nat} {cI cL : ClassId} {post : Int32 → (Nat → Nat → Int32) → (Nat → Nat → Int64) → Int32 → Int64 → Int32 → Prop} (C0 : mCx p s m args meth c D A h0 ad cI cL cXM_come 4 (some .int)) : ∀ (I : Nat → Nat → Int32) (J : Nat → Nat → Int64) (cn : Int32) (cm : Int64) (so : Int32) (a1 : Int32), wMcome post I J cn cm so a1 → ∀ (H : Heap) (locs : List Loc) (ls : Array Slot), mW D h0 ad cI cL (I, J, cn, cm, so) H → va_S A s.heap H locs → lv_has ls 4 [(0, .ref h0), (1, .int a1)] → W p l e ({ frames := 4, cells := 0, slots := 0, locals := 98 } : Room) s m args below meth c H locs 0 0 (MQ below (va_Qi (fun (r : Int32) (u : mS) => post r u.1 u.2.1 u.2.2.1 u.2.2.2.1 u.2.2.2.2) (fxC (mW D h0 ad cI cL)) A) args s 0 0 A) (F0 m 0 ls []) := by
  obtain ⟨hx, hb, hr, hml, hown, hts, hlocks, hK, hN, hD⟩ := id C0
  intro I J cn cm so a1 h H locs ls hP hS hl
  replace h : (wMarrive (fun r1 I_1 J_1 cn_1 cm_1 so_1 => (∃ k, wMcome_8 post  k I_1 J_1 cn_1 cm_1 so_1 a1 r1 0)) I J cn cm so a1) := h
  refine lv_aload_n hx hb dXM_come_0 rfl (lv_at hl 0 rfl) ?_
  refine lv_iload_n hx hb dXM_come_1 rfl (lv_at hl 1 rfl) ?_
  refine va_calli (va_runV (As := [.int a1]) (rest := []) ⟨hx, hb, hml, hown, hts⟩ (cMarrive hD h) (fx_cwV 1 hts gw_M_125 hdXM_arrive ⟨Nat.le_of_ble_eq_true rfl, Nat.le_of_ble_eq_true rfl⟩) (fx_preV (m_recv hK hP) hP hK hN) rfl rfl hl.1 rfl (lv_room (Nat.le_of_ble_eq_true rfl)) dXM_come_2 ⟨Nat.le_of_ble_eq_true rfl, Nat.le_of_ble_eq_true rfl⟩) hS (fun _ _ q => q) (fun _ q => q) (fun r1 u t H locs ht hvm h hP hz hk hS => ?_)
  rw [fxC, ht] at hP
  obtain ⟨I_1, J_1, cn_1, cm_1, so_1⟩ := u
  dsimp only at h
  refine lv_istore_n (lv' := [(2, .int r1), (0, .ref h0), (1, .int a1)]) hx hb dXM_come_5 rfl hl (by decide) rfl (fun ls hl => ?_)
  refine lv_iconst (v := 0) hx hb dXM_come_6 (by decide) ?_
  refine lv_istore_n (lv' := [(3, .int 0), (2, .int r1), (0, .ref h0), (1, .int a1)]) hx hb dXM_come_7 rfl hl (by decide) rfl (fun ls hl => ?_)
  obtain ⟨k, h⟩ := h
  exact sMcome_8  C0  k I_1 J_1 cn_1 cm_1 so_1 a1 r1 0 h H locs ls hP hS (lv_sub hl [2, 3, 1, 0] rfl)
set_option maxRecDepth 100000 in
set_option maxHeartbeats 4000000 in
theorem cMcome {l : Launch} {D : va_G} {A : Nat → Prop} {h0 : Nat} {ad : Nat → Nat} {cI cL : ClassId} (hD : mDs A h0 ad cI cL) {post : Int32 → (Nat → Nat → Int32) → (Nat → Nat → Int64) → Int32 → Int64 → Int32 → Prop} {I : Nat → Nat → Int32} {J : Nat → Nat → Int64} {cn : Int32} {cm : Int64} {so : Int32} {a1 : Int32} (h : wMcome post I J cn cm so a1) : Met l yXM_come (.code yXM_come cXM_come 4 (some .int) :: lg_tbl) ({ frames := 4, cells := 0, slots := 0, locals := 98 } : Room) (va_Pc [.ref h0, .int a1] (fxB (mW D h0 ad cI cL (I, J, cn, cm, so)) D vwCl (mTy cI cL))) (va_Qi (fun (r : Int32) (u : mS) => post r u.1 u.2.1 u.2.2.1 u.2.2.2.1 u.2.2.2.2) (fxC (mW D h0 ad cI cL)) A) 0 0 A := by
  refine fx_start (by decide +kernel) (Nat.le_of_ble_eq_true rfl) ?_
  intro p e s m below meth c ls hx hb hr hml hown hts hlocks hnm hB hl
  exact sMcome_in ⟨hx, hb, hr, hml, hown, hts, hlocks, hB.2.1, hB.2.2, hD⟩ I J cn cm so a1 h _ _ ls hB.1 va_S.rf hl
noncomputable def wMheadSet_5 (post : Int64 → (Nat → Nat → Int32) → (Nat → Nat → Int64) → Int32 → Int64 → Int32 → Prop) (n : Nat) : (Nat → Nat → Int32) → (Nat → Nat → Int64) → Int32 → Int64 → Int32 → Int32 → Int64 → Int32 → Prop := Nat.rec (motive := fun _ => (Nat → Nat → Int32) → (Nat → Nat → Int64) → Int32 → Int64 → Int32 → Int32 → Int64 → Int32 → Prop) (fun _ _ _ _ _ _ _ _ => False) (fun _ K5 I J cn cm so v1 v2 v4 => ((cn ≤ v4 → (vp_in v1 4 ∧ (post ((J 3 (Int32.toNatClampNeg v1)) &&& (v2 ^^^ (-1))) I J cn cm so))) ∧ (¬ cn ≤ v4 → (vp_in v1 4 ∧ (wMin (fun r4 I_4 J_4 cn_4 cm_4 so_4 => ((r4 = 0 → (K5 I_4 J_4 cn_4 cm_4 so_4 v1 v2 (v4 + 1))) ∧ (¬ r4 = 0 → (vp_in v4 40 ∧ (K5 I_4 J_4 cn_4 cm_4 so_4 v1 (v2 ||| (J_4 2 (Int32.toNatClampNeg v4))) (v4 + 1)))))) I J cn cm so (J 3 (Int32.toNatClampNeg v1)) v4))))) n
def wMheadSet (post : Int64 → (Nat → Nat → Int32) → (Nat → Nat → Int64) → Int32 → Int64 → Int32 → Prop) (I : Nat → Nat → Int32) (J : Nat → Nat → Int64) (cn : Int32) (cm : Int64) (so : Int32) (a1 : Int32) : Prop := (∃ k, wMheadSet_5 post  k I J cn cm so a1 0 0)
set_option maxRecDepth 100000 in
set_option maxHeartbeats 4000000 in
theorem sMheadSet_5 {p : Program} {l : Launch} {e : Env} {s : State} {m : MethodId} {args : Array Value} {below : List Frame} {meth : Method} {c : Code} {D : va_G} {A : Nat → Prop} {h0 : Nat} {ad : Nat → Nat} {cI cL : ClassId} {post : Int64 → (Nat → Nat → Int32) → (Nat → Nat → Int64) → Int32 → Int64 → Int32 → Prop} (C0 : mCx p s m args meth c D A h0 ad cI cL cXM_headSet 5 (some .long)) : ∀ (n : Nat) (I : Nat → Nat → Int32) (J : Nat → Nat → Int64) (cn : Int32) (cm : Int64) (so : Int32) (v1 : Int32) (v2 : Int64) (v4 : Int32), wMheadSet_5 post  n I J cn cm so v1 v2 v4 → ∀ (H : Heap) (locs : List Loc) (ls : Array Slot), mW D h0 ad cI cL (I, J, cn, cm, so) H → va_S A s.heap H locs → lv_has ls 5 [(0, .ref h0), (1, .int v1), (2, .long v2), (4, .int v4)] → W p l e ({ frames := 1, cells := 0, slots := 0, locals := 22 } : Room) s m args below meth c H locs 0 0 (MQ below (va_Ql (fun (r : Int64) (u : mS) => post r u.1 u.2.1 u.2.2.1 u.2.2.2.1 u.2.2.2.2) (fxC (mW D h0 ad cI cL)) A) args s 0 0 A) (F0 m 5 ls []) := by
  obtain ⟨hx, hb, hr, hml, hown, hts, hlocks, hK, hN, hD⟩ := id C0
  intro n
  induction n with
  | zero => exact fun _ _ _ _ _ _ _ _ h => h.elim
  | succ n hK5 =>
    intro I J cn cm so v1 v2 v4 h H locs ls hP hS hl
    replace h : ((cn ≤ v4 → (vp_in v1 4 ∧ (post ((J 3 (Int32.toNatClampNeg v1)) &&& (v2 ^^^ (-1))) I J cn cm so))) ∧ (¬ cn ≤ v4 → (vp_in v1 4 ∧ (wMin (fun r4 I_4 J_4 cn_4 cm_4 so_4 => ((r4 = 0 → ((wMheadSet_5 post  n) I_4 J_4 cn_4 cm_4 so_4 v1 v2 (v4 + 1))) ∧ (¬ r4 = 0 → (vp_in v4 40 ∧ ((wMheadSet_5 post  n) I_4 J_4 cn_4 cm_4 so_4 v1 (v2 ||| (J_4 2 (Int32.toNatClampNeg v4))) (v4 + 1)))))) I J cn cm so (J 3 (Int32.toNatClampNeg v1)) v4)))) := h
    refine lv_iload hx hb dXM_headSet_5 (lv_at hl 3 rfl) ?_
    refine lv_aload_n hx hb dXM_headSet_7 rfl (lv_at hl 0 rfl) ?_
    refine mg_count hx hb hown hts hK hP dXM_headSet_8 ?_
    refine lv_icmp_ge (tgt := 48) hx hb dXM_headSet_11 (by decide) (fun c1 => ?_) (fun c1 => ?_)
    · replace h := h.1 c1
      refine lv_aload_n hx hb dXM_headSet_48 rfl (lv_at hl 0 rfl) ?_
      refine mg_holds hx hb hown hts hK hP dXM_headSet_49 ?_
      refine lv_iload_n hx hb dXM_headSet_52 rfl (lv_at hl 1 rfl) ?_
      obtain ⟨h2, h⟩ := h
      refine ma_9 hx hb hK hP h2 dXM_headSet_53 ?_
      refine lv_lload_n hx hb dXM_headSet_54 rfl (lv_at hl 2 rfl) ?_
      refine lv_ldc2 (v := (-1)) hx hb hown (hts (.constantLong RXM 151 (-1)) (fx_m (by decide +kernel))) dXM_headSet_55 ?_
      refine lv_lxor hx hb dXM_headSet_58 ?_
      refine lv_land hx hb dXM_headSet_59 ?_
      exact W.lret hx hb hr (fun t ht hW => ⟨⟨_, (I, J, cn, cm, so), rfl, h, by rw [fxC, ht]; exact hP⟩, hS.F ht⟩) hS.2.2 dXM_headSet_60 hlocks
    · replace h := h.2 c1
      refine lv_aload_n hx hb dXM_headSet_14 rfl (lv_at hl 0 rfl) ?_
      refine mg_holds hx hb hown hts hK hP dXM_headSet_15 ?_
      refine lv_iload_n hx hb dXM_headSet_18 rfl (lv_at hl 1 rfl) ?_
      obtain ⟨h3, h⟩ := h
      refine ma_9 hx hb hK hP h3 dXM_headSet_19 ?_
      refine lv_iload hx hb dXM_headSet_20 (lv_at hl 3 rfl) ?_
      refine va_calli (va_runS (As := [.long (J 3 (Int32.toNatClampNeg v1)), .int v4]) (rest := []) ⟨hx, hb, hml, hown, hts⟩ (cMin hD h) (fx_cwS 2 hts gw_M_88 hdXM_in ⟨Nat.le_of_ble_eq_true rfl, Nat.le_of_ble_eq_true rfl⟩) (fx_preS hP hK hN) rfl rfl hl.1 rfl (lv_room (Nat.le_of_ble_eq_true rfl)) dXM_headSet_22 ⟨Nat.le_of_ble_eq_true rfl, Nat.le_of_ble_eq_true rfl⟩) hS (fun _ _ q => q) (fun _ q => q) (fun r4 u t H locs ht hvm h hP hz hk hS => ?_)
      rw [fxC, ht] at hP
      obtain ⟨I_4, J_4, cn_4, cm_4, so_4⟩ := u
      dsimp only at h
      refine lv_if_eq (tgt := 40) hx hb dXM_headSet_25 (by decide) (fun c5 => ?_) (fun c5 => ?_)
      · replace h := h.1 c5
        refine lv_lload_n hx hb dXM_headSet_40 rfl (lv_at hl 2 rfl) ?_
        refine lv_lstore_n (lv' := [(2, .long v2), (0, .ref h0), (1, .int v1), (4, .int v4)]) hx hb dXM_headSet_41 rfl hl (by decide) rfl (fun ls hl => ?_)
        refine lv_iinc (v := v4 + 1) (lv' := [(4, .int (v4 + 1)), (2, .long v2), (0, .ref h0), (1, .int v1)]) hx hb dXM_headSet_42 hl (k := 3) rfl rfl (by decide) rfl (fun ls hl => ?_)
        refine lv_goto (tgt := 5) hx hb dXM_headSet_45 (by decide) ?_
        exact hK5 I_4 J_4 cn_4 cm_4 so_4 v1 v2 (v4 + 1) h H locs ls hP hS (lv_sub hl [2, 3, 1, 0] rfl)
      · replace h := h.2 c5
        refine lv_lload_n hx hb dXM_headSet_28 rfl (lv_at hl 2 rfl) ?_
        refine lv_aload_n hx hb dXM_headSet_29 rfl (lv_at hl 0 rfl) ?_
        refine mg_past hx hb hown hts hK hP dXM_headSet_30 ?_
        refine lv_iload hx hb dXM_headSet_33 (lv_at hl 3 rfl) ?_
        obtain ⟨h6, h⟩ := h
        refine ma_7 hx hb hK hP h6 dXM_headSet_35 ?_
        refine lv_lor hx hb dXM_headSet_36 ?_
        refine lv_goto (tgt := 41) hx hb dXM_headSet_37 (by decide) ?_
        refine lv_lstore_n (lv' := [(2, .long (v2 ||| (J_4 2 (Int32.toNatClampNeg v4)))), (0, .ref h0), (1, .int v1), (4, .int v4)]) hx hb dXM_headSet_41 rfl hl (by decide) rfl (fun ls hl => ?_)
        refine lv_iinc (v := v4 + 1) (lv' := [(4, .int (v4 + 1)), (2, .long (v2 ||| (J_4 2 (Int32.toNatClampNeg v4)))), (0, .ref h0), (1, .int v1)]) hx hb dXM_headSet_42 hl (k := 3) rfl rfl (by decide) rfl (fun ls hl => ?_)
        refine lv_goto (tgt := 5) hx hb dXM_headSet_45 (by decide) ?_
        exact hK5 I_4 J_4 cn_4 cm_4 so_4 v1 (v2 ||| (J_4 2 (Int32.toNatClampNeg v4))) (v4 + 1) h H locs ls hP hS (lv_sub hl [2, 3, 1, 0] rfl)
set_option maxRecDepth 100000 in
set_option maxHeartbeats 4000000 in
theorem sMheadSet_in {p : Program} {l : Launch} {e : Env} {s : State} {m : MethodId} {args : Array Value} {below : List Frame} {meth : Method} {c : Code} {D : va_G} {A : Nat → Prop} {h0 : Nat} {ad : Nat → Nat} {cI cL : ClassId} {post : Int64 → (Nat → Nat → Int32) → (Nat → Nat → Int64) → Int32 → Int64 → Int32 → Prop} (C0 : mCx p s m args meth c D A h0 ad cI cL cXM_headSet 5 (some .long)) : ∀ (I : Nat → Nat → Int32) (J : Nat → Nat → Int64) (cn : Int32) (cm : Int64) (so : Int32) (a1 : Int32), wMheadSet post I J cn cm so a1 → ∀ (H : Heap) (locs : List Loc) (ls : Array Slot), mW D h0 ad cI cL (I, J, cn, cm, so) H → va_S A s.heap H locs → lv_has ls 5 [(0, .ref h0), (1, .int a1)] → W p l e ({ frames := 1, cells := 0, slots := 0, locals := 22 } : Room) s m args below meth c H locs 0 0 (MQ below (va_Ql (fun (r : Int64) (u : mS) => post r u.1 u.2.1 u.2.2.1 u.2.2.2.1 u.2.2.2.2) (fxC (mW D h0 ad cI cL)) A) args s 0 0 A) (F0 m 0 ls []) := by
  obtain ⟨hx, hb, hr, hml, hown, hts, hlocks, hK, hN, hD⟩ := id C0
  intro I J cn cm so a1 h H locs ls hP hS hl
  replace h : (∃ k, wMheadSet_5 post  k I J cn cm so a1 0 0) := h
  refine lv_lconst (v := 0) hx hb dXM_headSet_0 (by decide) ?_
  refine lv_lstore_n (lv' := [(2, .long 0), (0, .ref h0), (1, .int a1)]) hx hb dXM_headSet_1 rfl hl (by decide) rfl (fun ls hl => ?_)
  refine lv_iconst (v := 0) hx hb dXM_headSet_2 (by decide) ?_
  refine lv_istore (lv' := [(4, .int 0), (2, .long 0), (0, .ref h0), (1, .int a1)]) hx hb dXM_headSet_3 hl (by decide) rfl (fun ls hl => ?_)
  obtain ⟨k, h⟩ := h
  exact sMheadSet_5  C0  k I J cn cm so a1 0 0 h H locs ls hP hS (lv_sub hl [2, 3, 1, 0] rfl)
set_option maxRecDepth 100000 in
set_option maxHeartbeats 4000000 in
theorem cMheadSet {l : Launch} {D : va_G} {A : Nat → Prop} {h0 : Nat} {ad : Nat → Nat} {cI cL : ClassId} (hD : mDs A h0 ad cI cL) {post : Int64 → (Nat → Nat → Int32) → (Nat → Nat → Int64) → Int32 → Int64 → Int32 → Prop} {I : Nat → Nat → Int32} {J : Nat → Nat → Int64} {cn : Int32} {cm : Int64} {so : Int32} {a1 : Int32} (h : wMheadSet post I J cn cm so a1) : Met l yXM_headSet (.code yXM_headSet cXM_headSet 5 (some .long) :: lg_tbl) ({ frames := 1, cells := 0, slots := 0, locals := 22 } : Room) (va_Pc [.ref h0, .int a1] (fxB (mW D h0 ad cI cL (I, J, cn, cm, so)) D vwCl (mTy cI cL))) (va_Ql (fun (r : Int64) (u : mS) => post r u.1 u.2.1 u.2.2.1 u.2.2.2.1 u.2.2.2.2) (fxC (mW D h0 ad cI cL)) A) 0 0 A := by
  refine fx_start (by decide +kernel) (Nat.le_of_ble_eq_true rfl) ?_
  intro p e s m below meth c ls hx hb hr hml hown hts hlocks hnm hB hl
  exact sMheadSet_in ⟨hx, hb, hr, hml, hown, hts, hlocks, hB.2.1, hB.2.2, hD⟩ I J cn cm so a1 h _ _ ls hB.1 va_S.rf hl
def wMbefore_42 (post : Int32 → (Nat → Nat → Int32) → (Nat → Nat → Int64) → Int32 → Int64 → Int32 → Prop) (I : Nat → Nat → Int32) (J : Nat → Nat → Int64) (cn : Int32) (cm : Int64) (so : Int32) (v1 : Int32) (v2 : Int32) : Prop := (vp_in v1 40 ∧ (vp_in v2 40 ∧ ((0 ≤ (lg_cmp (J 0 (Int32.toNatClampNeg v1)) (J 0 (Int32.toNatClampNeg v2))) → (post 0 I J cn cm so)) ∧ (¬ 0 ≤ (lg_cmp (J 0 (Int32.toNatClampNeg v1)) (J 0 (Int32.toNatClampNeg v2))) → (post 1 I J cn cm so)))))
def wMbefore (post : Int32 → (Nat → Nat → Int32) → (Nat → Nat → Int64) → Int32 → Int64 → Int32 → Prop) (I : Nat → Nat → Int32) (J : Nat → Nat → Int64) (cn : Int32) (cm : Int64) (so : Int32) (a1 : Int32) (a2 : Int32) (a3 : Int32) : Prop := ((a3 = 0 → (wMbefore_42 post  I J cn cm so a1 a2)) ∧ (¬ a3 = 0 → (vp_in a1 40 ∧ (vp_in a2 40 ∧ (((I 5 (Int32.toNatClampNeg a1)) = (I 5 (Int32.toNatClampNeg a2)) → (wMbefore_42 post  I J cn cm so a1 a2)) ∧ (¬ (I 5 (Int32.toNatClampNeg a1)) = (I 5 (Int32.toNatClampNeg a2)) → (vp_in a1 40 ∧ (vp_in a2 40 ∧ (((I 5 (Int32.toNatClampNeg a2)) ≤ (I 5 (Int32.toNatClampNeg a1)) → (post 0 I J cn cm so)) ∧ (¬ (I 5 (Int32.toNatClampNeg a2)) ≤ (I 5 (Int32.toNatClampNeg a1)) → (post 1 I J cn cm so)))))))))))
set_option maxRecDepth 100000 in
set_option maxHeartbeats 4000000 in
theorem sMbefore_42 {p : Program} {l : Launch} {e : Env} {s : State} {m : MethodId} {args : Array Value} {below : List Frame} {meth : Method} {c : Code} {D : va_G} {A : Nat → Prop} {h0 : Nat} {ad : Nat → Nat} {cI cL : ClassId} {post : Int32 → (Nat → Nat → Int32) → (Nat → Nat → Int64) → Int32 → Int64 → Int32 → Prop} (C0 : mCx p s m args meth c D A h0 ad cI cL cXM_before 4 (some .boolean)) : ∀ (I : Nat → Nat → Int32) (J : Nat → Nat → Int64) (cn : Int32) (cm : Int64) (so : Int32) (v1 : Int32) (v2 : Int32), wMbefore_42 post  I J cn cm so v1 v2 → ∀ (H : Heap) (locs : List Loc) (ls : Array Slot), mW D h0 ad cI cL (I, J, cn, cm, so) H → va_S A s.heap H locs → lv_has ls 4 [(0, .ref h0), (1, .int v1), (2, .int v2)] → W p l e ({ frames := 0, cells := 0, slots := 0, locals := 0 } : Room) s m args below meth c H locs 0 0 (MQ below (va_Qi (fun (r : Int32) (u : mS) => post r u.1 u.2.1 u.2.2.1 u.2.2.2.1 u.2.2.2.2) (fxC (mW D h0 ad cI cL)) A) args s 0 0 A) (F0 m 42 ls []) := by
  obtain ⟨hx, hb, hr, hml, hown, hts, hlocks, hK, hN, hD⟩ := id C0
  intro I J cn cm so v1 v2 h H locs ls hP hS hl
  replace h : (vp_in v1 40 ∧ (vp_in v2 40 ∧ ((0 ≤ (lg_cmp (J 0 (Int32.toNatClampNeg v1)) (J 0 (Int32.toNatClampNeg v2))) → (post 0 I J cn cm so)) ∧ (¬ 0 ≤ (lg_cmp (J 0 (Int32.toNatClampNeg v1)) (J 0 (Int32.toNatClampNeg v2))) → (post 1 I J cn cm so))))) := h
  refine lv_aload_n hx hb dXM_before_42 rfl (lv_at hl 0 rfl) ?_
  refine mg_hash hx hb hown hts hK hP dXM_before_43 ?_
  refine lv_iload_n hx hb dXM_before_46 rfl (lv_at hl 1 rfl) ?_
  obtain ⟨h8, h⟩ := h
  refine ma_0 hx hb hK hP h8 dXM_before_47 ?_
  refine lv_aload_n hx hb dXM_before_48 rfl (lv_at hl 0 rfl) ?_
  refine mg_hash hx hb hown hts hK hP dXM_before_49 ?_
  refine lv_iload_n hx hb dXM_before_52 rfl (lv_at hl 2 rfl) ?_
  obtain ⟨h9, h⟩ := h
  refine ma_0 hx hb hK hP h9 dXM_before_53 ?_
  refine W.lcmp hx hb dXM_before_54 ?_
  refine lv_if_ge (tgt := 62) hx hb dXM_before_55 (by decide) (fun c10 => ?_) (fun c10 => ?_)
  · replace h := h.1 c10
    refine lv_iconst (v := 0) hx hb dXM_before_62 (by decide) ?_
    exact W.zret hx hb hr rfl (fun t ht hW => ⟨⟨_, (I, J, cn, cm, so), rfl, h, by rw [fxC, ht]; exact hP⟩, hS.F ht⟩) hS.2.2 dXM_before_63 hlocks
  · replace h := h.2 c10
    refine lv_iconst (v := 1) hx hb dXM_before_58 (by decide) ?_
    refine lv_goto (tgt := 63) hx hb dXM_before_59 (by decide) ?_
    exact W.zret hx hb hr rfl (fun t ht hW => ⟨⟨_, (I, J, cn, cm, so), rfl, h, by rw [fxC, ht]; exact hP⟩, hS.F ht⟩) hS.2.2 dXM_before_63 hlocks
set_option maxRecDepth 100000 in
set_option maxHeartbeats 4000000 in
theorem sMbefore_in {p : Program} {l : Launch} {e : Env} {s : State} {m : MethodId} {args : Array Value} {below : List Frame} {meth : Method} {c : Code} {D : va_G} {A : Nat → Prop} {h0 : Nat} {ad : Nat → Nat} {cI cL : ClassId} {post : Int32 → (Nat → Nat → Int32) → (Nat → Nat → Int64) → Int32 → Int64 → Int32 → Prop} (C0 : mCx p s m args meth c D A h0 ad cI cL cXM_before 4 (some .boolean)) : ∀ (I : Nat → Nat → Int32) (J : Nat → Nat → Int64) (cn : Int32) (cm : Int64) (so : Int32) (a1 : Int32) (a2 : Int32) (a3 : Int32), wMbefore post I J cn cm so a1 a2 a3 → ∀ (H : Heap) (locs : List Loc) (ls : Array Slot), mW D h0 ad cI cL (I, J, cn, cm, so) H → va_S A s.heap H locs → lv_has ls 4 [(0, .ref h0), (1, .int a1), (2, .int a2), (3, .int a3)] → W p l e ({ frames := 0, cells := 0, slots := 0, locals := 0 } : Room) s m args below meth c H locs 0 0 (MQ below (va_Qi (fun (r : Int32) (u : mS) => post r u.1 u.2.1 u.2.2.1 u.2.2.2.1 u.2.2.2.2) (fxC (mW D h0 ad cI cL)) A) args s 0 0 A) (F0 m 0 ls []) := by
  obtain ⟨hx, hb, hr, hml, hown, hts, hlocks, hK, hN, hD⟩ := id C0
  intro I J cn cm so a1 a2 a3 h H locs ls hP hS hl
  replace h : ((a3 = 0 → (wMbefore_42 post  I J cn cm so a1 a2)) ∧ (¬ a3 = 0 → (vp_in a1 40 ∧ (vp_in a2 40 ∧ (((I 5 (Int32.toNatClampNeg a1)) = (I 5 (Int32.toNatClampNeg a2)) → (wMbefore_42 post  I J cn cm so a1 a2)) ∧ (¬ (I 5 (Int32.toNatClampNeg a1)) = (I 5 (Int32.toNatClampNeg a2)) → (vp_in a1 40 ∧ (vp_in a2 40 ∧ (((I 5 (Int32.toNatClampNeg a2)) ≤ (I 5 (Int32.toNatClampNeg a1)) → (post 0 I J cn cm so)) ∧ (¬ (I 5 (Int32.toNatClampNeg a2)) ≤ (I 5 (Int32.toNatClampNeg a1)) → (post 1 I J cn cm so))))))))))) := h
  refine lv_iload_n hx hb dXM_before_0 rfl (lv_at hl 3 rfl) ?_
  refine lv_if_eq (tgt := 42) hx hb dXM_before_1 (by decide) (fun c1 => ?_) (fun c1 => ?_)
  · replace h := h.1 c1
    exact sMbefore_42  C0  I J cn cm so a1 a2 h H locs ls hP hS (lv_sub hl [0, 1, 2] rfl)
  · replace h := h.2 c1
    refine lv_aload_n hx hb dXM_before_4 rfl (lv_at hl 0 rfl) ?_
    refine mg_depth hx hb hown hts hK hP dXM_before_5 ?_
    refine lv_iload_n hx hb dXM_before_8 rfl (lv_at hl 1 rfl) ?_
    obtain ⟨h2, h⟩ := h
    refine ma_8 hx hb hK hP h2 dXM_before_9 ?_
    refine lv_aload_n hx hb dXM_before_10 rfl (lv_at hl 0 rfl) ?_
    refine mg_depth hx hb hown hts hK hP dXM_before_11 ?_
    refine lv_iload_n hx hb dXM_before_14 rfl (lv_at hl 2 rfl) ?_
    obtain ⟨h3, h⟩ := h
    refine ma_8 hx hb hK hP h3 dXM_before_15 ?_
    refine lv_icmp_eq (tgt := 42) hx hb dXM_before_16 (by decide) (fun c4 => ?_) (fun c4 => ?_)
    · replace h := h.1 c4
      exact sMbefore_42  C0  I J cn cm so a1 a2 h H locs ls hP hS (lv_sub hl [0, 1, 2] rfl)
    · replace h := h.2 c4
      refine lv_aload_n hx hb dXM_before_19 rfl (lv_at hl 0 rfl) ?_
      refine mg_depth hx hb hown hts hK hP dXM_before_20 ?_
      refine lv_iload_n hx hb dXM_before_23 rfl (lv_at hl 1 rfl) ?_
      obtain ⟨h5, h⟩ := h
      refine ma_8 hx hb hK hP h5 dXM_before_24 ?_
      refine lv_aload_n hx hb dXM_before_25 rfl (lv_at hl 0 rfl) ?_
      refine mg_depth hx hb hown hts hK hP dXM_before_26 ?_
      refine lv_iload_n hx hb dXM_before_29 rfl (lv_at hl 2 rfl) ?_
      obtain ⟨h6, h⟩ := h
      refine ma_8 hx hb hK hP h6 dXM_before_30 ?_
      refine lv_icmp_ge (tgt := 38) hx hb dXM_before_31 (by decide) (fun c7 => ?_) (fun c7 => ?_)
      · replace h := h.1 c7
        refine lv_iconst (v := 0) hx hb dXM_before_38 (by decide) ?_
        refine lv_goto (tgt := 63) hx hb dXM_before_39 (by decide) ?_
        exact W.zret hx hb hr rfl (fun t ht hW => ⟨⟨_, (I, J, cn, cm, so), rfl, h, by rw [fxC, ht]; exact hP⟩, hS.F ht⟩) hS.2.2 dXM_before_63 hlocks
      · replace h := h.2 c7
        refine lv_iconst (v := 1) hx hb dXM_before_34 (by decide) ?_
        refine lv_goto (tgt := 63) hx hb dXM_before_35 (by decide) ?_
        exact W.zret hx hb hr rfl (fun t ht hW => ⟨⟨_, (I, J, cn, cm, so), rfl, h, by rw [fxC, ht]; exact hP⟩, hS.F ht⟩) hS.2.2 dXM_before_63 hlocks
set_option maxRecDepth 100000 in
set_option maxHeartbeats 4000000 in
theorem cMbefore {l : Launch} {D : va_G} {A : Nat → Prop} {h0 : Nat} {ad : Nat → Nat} {cI cL : ClassId} (hD : mDs A h0 ad cI cL) {post : Int32 → (Nat → Nat → Int32) → (Nat → Nat → Int64) → Int32 → Int64 → Int32 → Prop} {I : Nat → Nat → Int32} {J : Nat → Nat → Int64} {cn : Int32} {cm : Int64} {so : Int32} {a1 : Int32} {a2 : Int32} {a3 : Int32} (h : wMbefore post I J cn cm so a1 a2 a3) : Met l yXM_before (.code yXM_before cXM_before 4 (some .boolean) :: lg_tbl) ({ frames := 0, cells := 0, slots := 0, locals := 0 } : Room) (va_Pc [.ref h0, .int a1, .int a2, .int a3] (fxB (mW D h0 ad cI cL (I, J, cn, cm, so)) D vwCl (mTy cI cL))) (va_Qi (fun (r : Int32) (u : mS) => post r u.1 u.2.1 u.2.2.1 u.2.2.2.1 u.2.2.2.2) (fxC (mW D h0 ad cI cL)) A) 0 0 A := by
  refine fx_start (by decide +kernel) (Nat.le_of_ble_eq_true rfl) ?_
  intro p e s m below meth c ls hx hb hr hml hown hts hlocks hnm hB hl
  exact sMbefore_in ⟨hx, hb, hr, hml, hown, hts, hlocks, hB.2.1, hB.2.2, hD⟩ I J cn cm so a1 a2 a3 h _ _ ls hB.1 va_S.rf hl
def wMsort_78 (post : (Nat → Nat → Int32) → (Nat → Nat → Int64) → Int32 → Int64 → Int32 → Prop) (K8 : (Nat → Nat → Int32) → (Nat → Nat → Int64) → Int32 → Int64 → Int32 → Int64 → Int32 → Int32 → Prop) (I : Nat → Nat → Int32) (J : Nat → Nat → Int64) (cn : Int32) (cm : Int64) (so : Int32) (v1 : Int64) (v3 : Int32) (v4 : Int32) (v5 : Int32) : Prop := (vp_in v5 40 ∧ ∀ I11, I11 = mi_up I 10 (Int32.toNatClampNeg v5) v4 → (K8 I11 J cn cm (so + 1) v1 v3 (v4 + 1)))
noncomputable def wMsort_32 (post : (Nat → Nat → Int32) → (Nat → Nat → Int64) → Int32 → Int64 → Int32 → Prop) (K8 : (Nat → Nat → Int32) → (Nat → Nat → Int64) → Int32 → Int64 → Int32 → Int64 → Int32 → Int32 → Prop) (n : Nat) : (Nat → Nat → Int32) → (Nat → Nat → Int64) → Int32 → Int64 → Int32 → Int64 → Int32 → Int32 → Int32 → Prop := Nat.rec (motive := fun _ => (Nat → Nat → Int32) → (Nat → Nat → Int64) → Int32 → Int64 → Int32 → Int64 → Int32 → Int32 → Int32 → Prop) (fun _ _ _ _ _ _ _ _ _ => False) (fun _ K32 I J cn cm so v1 v3 v4 v5 => ((v5 ≤ 0 → (wMsort_78 post K8 I J cn cm so v1 v3 v4 v5)) ∧ (¬ v5 ≤ 0 → (vp_in (v5 - 1) 40 ∧ (wMbefore (fun r6 I_6 J_6 cn_6 cm_6 so_6 => ((r6 = 0 → (wMsort_78 post K8 I_6 J_6 cn_6 cm_6 so_6 v1 v3 v4 v5)) ∧ (¬ r6 = 0 → (vp_in (v5 - 1) 40 ∧ (vp_in v5 40 ∧ ∀ I9, I9 = mi_up I_6 10 (Int32.toNatClampNeg v5) (I_6 10 (Int32.toNatClampNeg (v5 - 1))) → (K32 I9 J_6 cn_6 cm_6 so_6 v1 v3 v4 (v5 + (-1)))))))) I J cn cm so v4 (I 10 (Int32.toNatClampNeg (v5 - 1))) v3))))) n
noncomputable def wMsort_8 (post : (Nat → Nat → Int32) → (Nat → Nat → Int64) → Int32 → Int64 → Int32 → Prop) (n : Nat) : (Nat → Nat → Int32) → (Nat → Nat → Int64) → Int32 → Int64 → Int32 → Int64 → Int32 → Int32 → Prop := Nat.rec (motive := fun _ => (Nat → Nat → Int32) → (Nat → Nat → Int64) → Int32 → Int64 → Int32 → Int64 → Int32 → Int32 → Prop) (fun _ _ _ _ _ _ _ _ => False) (fun _ K8 I J cn cm so v1 v3 v4 => ((cn ≤ v4 → (post I J cn cm so)) ∧ (¬ cn ≤ v4 → (wMin (fun r2 I_2 J_2 cn_2 cm_2 so_2 => ((r2 = 0 → (K8 I_2 J_2 cn_2 cm_2 so_2 v1 v3 (v4 + 1))) ∧ (¬ r2 = 0 → (∃ k, wMsort_32 post K8 k I_2 J_2 cn_2 cm_2 so_2 v1 v3 v4 so_2)))) I J cn cm so v1 v4)))) n
def wMsort (post : (Nat → Nat → Int32) → (Nat → Nat → Int64) → Int32 → Int64 → Int32 → Prop) (I : Nat → Nat → Int32) (J : Nat → Nat → Int64) (cn : Int32) (cm : Int64) (so : Int32) (a1 : Int64) (a2 : Int32) : Prop := (∃ k, wMsort_8 post  k I J cn cm 0 a1 a2 0)
set_option maxRecDepth 100000 in
set_option maxHeartbeats 4000000 in
theorem sMsort_78 {p : Program} {l : Launch} {e : Env} {s : State} {m : MethodId} {args : Array Value} {below : List Frame} {meth : Method} {c : Code} {D : va_G} {A : Nat → Prop} {h0 : Nat} {ad : Nat → Nat} {cI cL : ClassId} {post : (Nat → Nat → Int32) → (Nat → Nat → Int64) → Int32 → Int64 → Int32 → Prop} (C0 : mCx p s m args meth c D A h0 ad cI cL cXM_sort 6 none) {K8 : (Nat → Nat → Int32) → (Nat → Nat → Int64) → Int32 → Int64 → Int32 → Int64 → Int32 → Int32 → Prop} (hK8 : ∀ (I : Nat → Nat → Int32) (J : Nat → Nat → Int64) (cn : Int32) (cm : Int64) (so : Int32) (v1 : Int64) (v3 : Int32) (v4 : Int32), K8 I J cn cm so v1 v3 v4 → ∀ (H : Heap) (locs : List Loc) (ls : Array Slot), mW D h0 ad cI cL (I, J, cn, cm, so) H → va_S A s.heap H locs → lv_has ls 6 [(0, .ref h0), (1, .long v1), (3, .int v3), (4, .int v4)] → W p l e ({ frames := 1, cells := 0, slots := 0, locals := 23 } : Room) s m args below meth c H locs 0 0 (MQ below (va_Qv (fun (u : mS) => post u.1 u.2.1 u.2.2.1 u.2.2.2.1 u.2.2.2.2) (fxC (mW D h0 ad cI cL)) A) args s 0 0 A) (F0 m 8 ls [])) : ∀ (I : Nat → Nat → Int32) (J : Nat → Nat → Int64) (cn : Int32) (cm : Int64) (so : Int32) (v1 : Int64) (v3 : Int32) (v4 : Int32) (v5 : Int32), wMsort_78 post K8 I J cn cm so v1 v3 v4 v5 → ∀ (H : Heap) (locs : List Loc) (ls : Array Slot), mW D h0 ad cI cL (I, J, cn, cm, so) H → va_S A s.heap H locs → lv_has ls 6 [(0, .ref h0), (1, .long v1), (3, .int v3), (4, .int v4), (5, .int v5)] → W p l e ({ frames := 1, cells := 0, slots := 0, locals := 23 } : Room) s m args below meth c H locs 0 0 (MQ below (va_Qv (fun (u : mS) => post u.1 u.2.1 u.2.2.1 u.2.2.2.1 u.2.2.2.2) (fxC (mW D h0 ad cI cL)) A) args s 0 0 A) (F0 m 78 ls []) := by
  obtain ⟨hx, hb, hr, hml, hown, hts, hlocks, hK, hN, hD⟩ := id C0
  intro I J cn cm so v1 v3 v4 v5 h H locs ls hP hS hl
  replace h : (vp_in v5 40 ∧ ∀ I11, I11 = mi_up I 10 (Int32.toNatClampNeg v5) v4 → (K8 I11 J cn cm (so + 1) v1 v3 (v4 + 1))) := h
  refine lv_aload_n hx hb dXM_sort_78 rfl (lv_at hl 0 rfl) ?_
  refine mg_order hx hb hown hts hK hP dXM_sort_79 ?_
  refine lv_iload hx hb dXM_sort_82 (lv_at hl 4 rfl) ?_
  refine lv_iload hx hb dXM_sort_84 (lv_at hl 3 rfl) ?_
  obtain ⟨h12, h⟩ := h
  obtain ⟨I11, eI11⟩ : ∃ y, y = mi_up I 10 (Int32.toNatClampNeg v5) v4 := ⟨_, rfl⟩
  replace h := h I11 eI11
  refine ms_18 hx hb hK hD hP hS h12 dXM_sort_86 (fun H locs hP hS => ?_)
  rw [← eI11] at hP
  refine lv_aload_n hx hb dXM_sort_87 rfl (lv_at hl 0 rfl) ?_
  refine lv_dup hx hb dXM_sort_88 rfl ?_
  refine mg_sorted hx hb hown hts hK hP dXM_sort_89 ?_
  refine lv_iconst (v := 1) hx hb dXM_sort_92 (by decide) ?_
  refine lv_iadd hx hb dXM_sort_93 ?_
  refine mp_sorted hx hb hown hts hK hD hP hS dXM_sort_94 (fun H locs hP hS => ?_)
  refine lv_iinc (v := v4 + 1) (lv' := [(4, .int (v4 + 1)), (0, .ref h0), (1, .long v1), (3, .int v3), (5, .int v5)]) hx hb dXM_sort_97 hl (k := 3) rfl rfl (by decide) rfl (fun ls hl => ?_)
  refine lv_goto (tgt := 8) hx hb dXM_sort_100 (by decide) ?_
  exact hK8 I11 J cn cm (so + 1) v1 v3 (v4 + 1) h H locs ls hP hS (lv_sub hl [1, 2, 3, 0] rfl)
set_option maxRecDepth 100000 in
set_option maxHeartbeats 4000000 in
theorem sMsort_32 {p : Program} {l : Launch} {e : Env} {s : State} {m : MethodId} {args : Array Value} {below : List Frame} {meth : Method} {c : Code} {D : va_G} {A : Nat → Prop} {h0 : Nat} {ad : Nat → Nat} {cI cL : ClassId} {post : (Nat → Nat → Int32) → (Nat → Nat → Int64) → Int32 → Int64 → Int32 → Prop} (C0 : mCx p s m args meth c D A h0 ad cI cL cXM_sort 6 none) {K8 : (Nat → Nat → Int32) → (Nat → Nat → Int64) → Int32 → Int64 → Int32 → Int64 → Int32 → Int32 → Prop} (hK8 : ∀ (I : Nat → Nat → Int32) (J : Nat → Nat → Int64) (cn : Int32) (cm : Int64) (so : Int32) (v1 : Int64) (v3 : Int32) (v4 : Int32), K8 I J cn cm so v1 v3 v4 → ∀ (H : Heap) (locs : List Loc) (ls : Array Slot), mW D h0 ad cI cL (I, J, cn, cm, so) H → va_S A s.heap H locs → lv_has ls 6 [(0, .ref h0), (1, .long v1), (3, .int v3), (4, .int v4)] → W p l e ({ frames := 1, cells := 0, slots := 0, locals := 23 } : Room) s m args below meth c H locs 0 0 (MQ below (va_Qv (fun (u : mS) => post u.1 u.2.1 u.2.2.1 u.2.2.2.1 u.2.2.2.2) (fxC (mW D h0 ad cI cL)) A) args s 0 0 A) (F0 m 8 ls [])) : ∀ (n : Nat) (I : Nat → Nat → Int32) (J : Nat → Nat → Int64) (cn : Int32) (cm : Int64) (so : Int32) (v1 : Int64) (v3 : Int32) (v4 : Int32) (v5 : Int32), wMsort_32 post K8 n I J cn cm so v1 v3 v4 v5 → ∀ (H : Heap) (locs : List Loc) (ls : Array Slot), mW D h0 ad cI cL (I, J, cn, cm, so) H → va_S A s.heap H locs → lv_has ls 6 [(0, .ref h0), (1, .long v1), (3, .int v3), (4, .int v4), (5, .int v5)] → W p l e ({ frames := 1, cells := 0, slots := 0, locals := 23 } : Room) s m args below meth c H locs 0 0 (MQ below (va_Qv (fun (u : mS) => post u.1 u.2.1 u.2.2.1 u.2.2.2.1 u.2.2.2.2) (fxC (mW D h0 ad cI cL)) A) args s 0 0 A) (F0 m 32 ls []) := by
  obtain ⟨hx, hb, hr, hml, hown, hts, hlocks, hK, hN, hD⟩ := id C0
  intro n
  induction n with
  | zero => exact fun _ _ _ _ _ _ _ _ _ h => h.elim
  | succ n hK32 =>
    intro I J cn cm so v1 v3 v4 v5 h H locs ls hP hS hl
    replace h : ((v5 ≤ 0 → (wMsort_78 post K8 I J cn cm so v1 v3 v4 v5)) ∧ (¬ v5 ≤ 0 → (vp_in (v5 - 1) 40 ∧ (wMbefore (fun r6 I_6 J_6 cn_6 cm_6 so_6 => ((r6 = 0 → (wMsort_78 post K8 I_6 J_6 cn_6 cm_6 so_6 v1 v3 v4 v5)) ∧ (¬ r6 = 0 → (vp_in (v5 - 1) 40 ∧ (vp_in v5 40 ∧ ∀ I9, I9 = mi_up I_6 10 (Int32.toNatClampNeg v5) (I_6 10 (Int32.toNatClampNeg (v5 - 1))) → ((wMsort_32 post K8 n) I9 J_6 cn_6 cm_6 so_6 v1 v3 v4 (v5 + (-1)))))))) I J cn cm so v4 (I 10 (Int32.toNatClampNeg (v5 - 1))) v3)))) := h
    refine lv_iload hx hb dXM_sort_32 (lv_at hl 4 rfl) ?_
    refine lv_if_le (tgt := 78) hx hb dXM_sort_34 (by decide) (fun c4 => ?_) (fun c4 => ?_)
    · replace h := h.1 c4
      exact sMsort_78  C0 hK8 I J cn cm so v1 v3 v4 v5 h H locs ls hP hS (lv_sub hl [0, 1, 2, 3, 4] rfl)
    · replace h := h.2 c4
      refine lv_aload_n hx hb dXM_sort_37 rfl (lv_at hl 0 rfl) ?_
      refine lv_iload hx hb dXM_sort_38 (lv_at hl 3 rfl) ?_
      refine lv_aload_n hx hb dXM_sort_40 rfl (lv_at hl 0 rfl) ?_
      refine mg_order hx hb hown hts hK hP dXM_sort_41 ?_
      refine lv_iload hx hb dXM_sort_44 (lv_at hl 4 rfl) ?_
      refine lv_iconst (v := 1) hx hb dXM_sort_46 (by decide) ?_
      refine lv_isub hx hb dXM_sort_47 ?_
      obtain ⟨h5, h⟩ := h
      refine ma_18 hx hb hK hP h5 dXM_sort_48 ?_
      refine lv_iload_n hx hb dXM_sort_49 rfl (lv_at hl 2 rfl) ?_
      refine va_calli (va_runV (As := [.int v4, .int (I 10 (Int32.toNatClampNeg (v5 - 1))), .int v3]) (rest := []) ⟨hx, hb, hml, hown, hts⟩ (cMbefore hD h) (fx_cwV 3 hts gw_M_169 hdXM_before ⟨Nat.le_of_ble_eq_true rfl, Nat.le_of_ble_eq_true rfl⟩) (fx_preV (m_recv hK hP) hP hK hN) rfl rfl hl.1 rfl (lv_room (Nat.le_of_ble_eq_true rfl)) dXM_sort_50 ⟨Nat.le_of_ble_eq_true rfl, Nat.le_of_ble_eq_true rfl⟩) hS (fun _ _ q => q) (fun _ q => q) (fun r6 u t H locs ht hvm h hP hz hk hS => ?_)
      rw [fxC, ht] at hP
      obtain ⟨I_6, J_6, cn_6, cm_6, so_6⟩ := u
      dsimp only at h
      refine lv_if_eq (tgt := 78) hx hb dXM_sort_53 (by decide) (fun c7 => ?_) (fun c7 => ?_)
      · replace h := h.1 c7
        exact sMsort_78  C0 hK8 I_6 J_6 cn_6 cm_6 so_6 v1 v3 v4 v5 h H locs ls hP hS (lv_sub hl [0, 1, 2, 3, 4] rfl)
      · replace h := h.2 c7
        refine lv_aload_n hx hb dXM_sort_56 rfl (lv_at hl 0 rfl) ?_
        refine mg_order hx hb hown hts hK hP dXM_sort_57 ?_
        refine lv_iload hx hb dXM_sort_60 (lv_at hl 4 rfl) ?_
        refine lv_aload_n hx hb dXM_sort_62 rfl (lv_at hl 0 rfl) ?_
        refine mg_order hx hb hown hts hK hP dXM_sort_63 ?_
        refine lv_iload hx hb dXM_sort_66 (lv_at hl 4 rfl) ?_
        refine lv_iconst (v := 1) hx hb dXM_sort_68 (by decide) ?_
        refine lv_isub hx hb dXM_sort_69 ?_
        obtain ⟨h8, h⟩ := h
        refine ma_18 hx hb hK hP h8 dXM_sort_70 ?_
        obtain ⟨h10, h⟩ := h
        obtain ⟨I9, eI9⟩ : ∃ y, y = mi_up I_6 10 (Int32.toNatClampNeg v5) (I_6 10 (Int32.toNatClampNeg (v5 - 1))) := ⟨_, rfl⟩
        replace h := h I9 eI9
        refine ms_18 hx hb hK hD hP hS h10 dXM_sort_71 (fun H locs hP hS => ?_)
        rw [← eI9] at hP
        refine lv_iinc (v := v5 + (-1)) (lv' := [(5, .int (v5 + (-1))), (0, .ref h0), (1, .long v1), (3, .int v3), (4, .int v4)]) hx hb dXM_sort_72 hl (k := 4) rfl rfl (by decide) rfl (fun ls hl => ?_)
        refine lv_goto (tgt := 32) hx hb dXM_sort_75 (by decide) ?_
        exact hK32 I9 J_6 cn_6 cm_6 so_6 v1 v3 v4 (v5 + (-1)) h H locs ls hP hS (lv_sub hl [1, 2, 3, 4, 0] rfl)
set_option maxRecDepth 100000 in
set_option maxHeartbeats 4000000 in
theorem sMsort_8 {p : Program} {l : Launch} {e : Env} {s : State} {m : MethodId} {args : Array Value} {below : List Frame} {meth : Method} {c : Code} {D : va_G} {A : Nat → Prop} {h0 : Nat} {ad : Nat → Nat} {cI cL : ClassId} {post : (Nat → Nat → Int32) → (Nat → Nat → Int64) → Int32 → Int64 → Int32 → Prop} (C0 : mCx p s m args meth c D A h0 ad cI cL cXM_sort 6 none) : ∀ (n : Nat) (I : Nat → Nat → Int32) (J : Nat → Nat → Int64) (cn : Int32) (cm : Int64) (so : Int32) (v1 : Int64) (v3 : Int32) (v4 : Int32), wMsort_8 post  n I J cn cm so v1 v3 v4 → ∀ (H : Heap) (locs : List Loc) (ls : Array Slot), mW D h0 ad cI cL (I, J, cn, cm, so) H → va_S A s.heap H locs → lv_has ls 6 [(0, .ref h0), (1, .long v1), (3, .int v3), (4, .int v4)] → W p l e ({ frames := 1, cells := 0, slots := 0, locals := 23 } : Room) s m args below meth c H locs 0 0 (MQ below (va_Qv (fun (u : mS) => post u.1 u.2.1 u.2.2.1 u.2.2.2.1 u.2.2.2.2) (fxC (mW D h0 ad cI cL)) A) args s 0 0 A) (F0 m 8 ls []) := by
  obtain ⟨hx, hb, hr, hml, hown, hts, hlocks, hK, hN, hD⟩ := id C0
  intro n
  induction n with
  | zero => exact fun _ _ _ _ _ _ _ _ h => h.elim
  | succ n hK8 =>
    intro I J cn cm so v1 v3 v4 h H locs ls hP hS hl
    replace h : ((cn ≤ v4 → (post I J cn cm so)) ∧ (¬ cn ≤ v4 → (wMin (fun r2 I_2 J_2 cn_2 cm_2 so_2 => ((r2 = 0 → ((wMsort_8 post  n) I_2 J_2 cn_2 cm_2 so_2 v1 v3 (v4 + 1))) ∧ (¬ r2 = 0 → (∃ k, wMsort_32 post (wMsort_8 post  n) k I_2 J_2 cn_2 cm_2 so_2 v1 v3 v4 so_2)))) I J cn cm so v1 v4))) := h
    refine lv_iload hx hb dXM_sort_8 (lv_at hl 3 rfl) ?_
    refine lv_aload_n hx hb dXM_sort_10 rfl (lv_at hl 0 rfl) ?_
    refine mg_count hx hb hown hts hK hP dXM_sort_11 ?_
    refine lv_icmp_ge (tgt := 103) hx hb dXM_sort_14 (by decide) (fun c1 => ?_) (fun c1 => ?_)
    · replace h := h.1 c1
      exact W.vret hx hb hr (fun t ht hW => ⟨⟨(I, J, cn, cm, so), rfl, h, by rw [fxC, ht]; exact hP⟩, hS.F ht⟩) hS.2.2 dXM_sort_103 hlocks
    · replace h := h.2 c1
      refine lv_lload_n hx hb dXM_sort_17 rfl (lv_at hl 1 rfl) ?_
      refine lv_iload hx hb dXM_sort_18 (lv_at hl 3 rfl) ?_
      refine va_calli (va_runS (As := [.long v1, .int v4]) (rest := []) ⟨hx, hb, hml, hown, hts⟩ (cMin hD h) (fx_cwS 2 hts gw_M_88 hdXM_in ⟨Nat.le_of_ble_eq_true rfl, Nat.le_of_ble_eq_true rfl⟩) (fx_preS hP hK hN) rfl rfl hl.1 rfl (lv_room (Nat.le_of_ble_eq_true rfl)) dXM_sort_20 ⟨Nat.le_of_ble_eq_true rfl, Nat.le_of_ble_eq_true rfl⟩) hS (fun _ _ q => q) (fun _ q => q) (fun r2 u t H locs ht hvm h hP hz hk hS => ?_)
      rw [fxC, ht] at hP
      obtain ⟨I_2, J_2, cn_2, cm_2, so_2⟩ := u
      dsimp only at h
      refine lv_if_eq (tgt := 97) hx hb dXM_sort_23 (by decide) (fun c3 => ?_) (fun c3 => ?_)
      · replace h := h.1 c3
        refine lv_iinc (v := v4 + 1) (lv' := [(4, .int (v4 + 1)), (0, .ref h0), (1, .long v1), (3, .int v3)]) hx hb dXM_sort_97 hl (k := 3) rfl rfl (by decide) rfl (fun ls hl => ?_)
        refine lv_goto (tgt := 8) hx hb dXM_sort_100 (by decide) ?_
        exact hK8 I_2 J_2 cn_2 cm_2 so_2 v1 v3 (v4 + 1) h H locs ls hP hS (lv_sub hl [1, 2, 3, 0] rfl)
      · replace h := h.2 c3
        refine lv_aload_n hx hb dXM_sort_26 rfl (lv_at hl 0 rfl) ?_
        refine mg_sorted hx hb hown hts hK hP dXM_sort_27 ?_
        refine lv_istore (lv' := [(5, .int so_2), (0, .ref h0), (1, .long v1), (3, .int v3), (4, .int v4)]) hx hb dXM_sort_30 hl (by decide) rfl (fun ls hl => ?_)
        obtain ⟨k, h⟩ := h
        exact sMsort_32  C0 hK8 k I_2 J_2 cn_2 cm_2 so_2 v1 v3 v4 so_2 h H locs ls hP hS (lv_sub hl [1, 2, 3, 4, 0] rfl)
set_option maxRecDepth 100000 in
set_option maxHeartbeats 4000000 in
theorem sMsort_in {p : Program} {l : Launch} {e : Env} {s : State} {m : MethodId} {args : Array Value} {below : List Frame} {meth : Method} {c : Code} {D : va_G} {A : Nat → Prop} {h0 : Nat} {ad : Nat → Nat} {cI cL : ClassId} {post : (Nat → Nat → Int32) → (Nat → Nat → Int64) → Int32 → Int64 → Int32 → Prop} (C0 : mCx p s m args meth c D A h0 ad cI cL cXM_sort 6 none) : ∀ (I : Nat → Nat → Int32) (J : Nat → Nat → Int64) (cn : Int32) (cm : Int64) (so : Int32) (a1 : Int64) (a2 : Int32), wMsort post I J cn cm so a1 a2 → ∀ (H : Heap) (locs : List Loc) (ls : Array Slot), mW D h0 ad cI cL (I, J, cn, cm, so) H → va_S A s.heap H locs → lv_has ls 6 [(0, .ref h0), (1, .long a1), (3, .int a2)] → W p l e ({ frames := 1, cells := 0, slots := 0, locals := 23 } : Room) s m args below meth c H locs 0 0 (MQ below (va_Qv (fun (u : mS) => post u.1 u.2.1 u.2.2.1 u.2.2.2.1 u.2.2.2.2) (fxC (mW D h0 ad cI cL)) A) args s 0 0 A) (F0 m 0 ls []) := by
  obtain ⟨hx, hb, hr, hml, hown, hts, hlocks, hK, hN, hD⟩ := id C0
  intro I J cn cm so a1 a2 h H locs ls hP hS hl
  replace h : (∃ k, wMsort_8 post  k I J cn cm 0 a1 a2 0) := h
  refine lv_aload_n hx hb dXM_sort_0 rfl (lv_at hl 0 rfl) ?_
  refine lv_iconst (v := 0) hx hb dXM_sort_1 (by decide) ?_
  refine mp_sorted hx hb hown hts hK hD hP hS dXM_sort_2 (fun H locs hP hS => ?_)
  refine lv_iconst (v := 0) hx hb dXM_sort_5 (by decide) ?_
  refine lv_istore (lv' := [(4, .int 0), (0, .ref h0), (1, .long a1), (3, .int a2)]) hx hb dXM_sort_6 hl (by decide) rfl (fun ls hl => ?_)
  obtain ⟨k, h⟩ := h
  exact sMsort_8  C0  k I J cn cm 0 a1 a2 0 h H locs ls hP hS (lv_sub hl [1, 2, 3, 0] rfl)
set_option maxRecDepth 100000 in
set_option maxHeartbeats 4000000 in
theorem cMsort {l : Launch} {D : va_G} {A : Nat → Prop} {h0 : Nat} {ad : Nat → Nat} {cI cL : ClassId} (hD : mDs A h0 ad cI cL) {post : (Nat → Nat → Int32) → (Nat → Nat → Int64) → Int32 → Int64 → Int32 → Prop} {I : Nat → Nat → Int32} {J : Nat → Nat → Int64} {cn : Int32} {cm : Int64} {so : Int32} {a1 : Int64} {a2 : Int32} (h : wMsort post I J cn cm so a1 a2) : Met l yXM_sort (.code yXM_sort cXM_sort 6 none :: lg_tbl) ({ frames := 1, cells := 0, slots := 0, locals := 23 } : Room) (va_Pc [.ref h0, .long a1, .int a2] (fxB (mW D h0 ad cI cL (I, J, cn, cm, so)) D vwCl (mTy cI cL))) (va_Qv (fun (u : mS) => post u.1 u.2.1 u.2.2.1 u.2.2.2.1 u.2.2.2.2) (fxC (mW D h0 ad cI cL)) A) 0 0 A := by
  refine fx_start (by decide +kernel) (Nat.le_of_ble_eq_true rfl) ?_
  intro p e s m below meth c ls hx hb hr hml hown hts hlocks hnm hB hl
  exact sMsort_in ⟨hx, hb, hr, hml, hown, hts, hlocks, hB.2.1, hB.2.2, hD⟩ I J cn cm so a1 a2 h _ _ ls hB.1 va_S.rf hl
end
section
def wMsortHeads (post : (Nat → Nat → Int32) → (Nat → Nat → Int64) → Int32 → Int64 → Int32 → Prop) (I : Nat → Nat → Int32) (J : Nat → Nat → Int64) (cn : Int32) (cm : Int64) (so : Int32) (a1 : Int32) : Prop := (wMheadSet (fun r1 I_1 J_1 cn_1 cm_1 so_1 => (wMsort (fun I_2 J_2 cn_2 cm_2 so_2 => (post I_2 J_2 cn_2 cm_2 so_2)) I_1 J_1 cn_1 cm_1 so_1 r1 0)) I J cn cm so a1)
set_option maxRecDepth 100000 in
set_option maxHeartbeats 4000000 in
theorem sMsortHeads_in {p : Program} {l : Launch} {e : Env} {s : State} {m : MethodId} {args : Array Value} {below : List Frame} {meth : Method} {c : Code} {D : va_G} {A : Nat → Prop} {h0 : Nat} {ad : Nat → Nat} {cI cL : ClassId} {post : (Nat → Nat → Int32) → (Nat → Nat → Int64) → Int32 → Int64 → Int32 → Prop} (C0 : mCx p s m args meth c D A h0 ad cI cL cXM_sortHeads 2 none) : ∀ (I : Nat → Nat → Int32) (J : Nat → Nat → Int64) (cn : Int32) (cm : Int64) (so : Int32) (a1 : Int32), wMsortHeads post I J cn cm so a1 → ∀ (H : Heap) (locs : List Loc) (ls : Array Slot), mW D h0 ad cI cL (I, J, cn, cm, so) H → va_S A s.heap H locs → lv_has ls 2 [(0, .ref h0), (1, .int a1)] → W p l e ({ frames := 2, cells := 0, slots := 0, locals := 48 } : Room) s m args below meth c H locs 0 0 (MQ below (va_Qv (fun (u : mS) => post u.1 u.2.1 u.2.2.1 u.2.2.2.1 u.2.2.2.2) (fxC (mW D h0 ad cI cL)) A) args s 0 0 A) (F0 m 0 ls []) := by
  obtain ⟨hx, hb, hr, hml, hown, hts, hlocks, hK, hN, hD⟩ := id C0
  intro I J cn cm so a1 h H locs ls hP hS hl
  replace h : (wMheadSet (fun r1 I_1 J_1 cn_1 cm_1 so_1 => (wMsort (fun I_2 J_2 cn_2 cm_2 so_2 => (post I_2 J_2 cn_2 cm_2 so_2)) I_1 J_1 cn_1 cm_1 so_1 r1 0)) I J cn cm so a1) := h
  refine lv_aload_n hx hb dXM_sortHeads_0 rfl (lv_at hl 0 rfl) ?_
  refine lv_aload_n hx hb dXM_sortHeads_1 rfl (lv_at hl 0 rfl) ?_
  refine lv_iload_n hx hb dXM_sortHeads_2 rfl (lv_at hl 1 rfl) ?_
  refine va_calll (va_runV (As := [.int a1]) (rest := [.ref h0]) ⟨hx, hb, hml, hown, hts⟩ (cMheadSet hD h) (fx_cwV 1 hts gw_M_157 hdXM_headSet ⟨Nat.le_of_ble_eq_true rfl, Nat.le_of_ble_eq_true rfl⟩) (fx_preV (m_recv hK hP) hP hK hN) rfl rfl hl.1 rfl (lv_room (Nat.le_of_ble_eq_true rfl)) dXM_sortHeads_3 ⟨Nat.le_of_ble_eq_true rfl, Nat.le_of_ble_eq_true rfl⟩) hS (fun _ _ q => q) (fun _ q => q) (fun r1 u t H locs ht hvm h hP hz hk hS => ?_)
  rw [fxC, ht] at hP
  obtain ⟨I_1, J_1, cn_1, cm_1, so_1⟩ := u
  dsimp only at h
  refine lv_iconst (v := 0) hx hb dXM_sortHeads_6 (by decide) ?_
  refine va_callv (va_runV (As := [.long r1, .int 0]) (rest := []) ⟨hx, hb, hml, hown, hts⟩ (cMsort hD h) (fx_cwV 2 hts gw_M_153 hdXM_sort ⟨Nat.le_of_ble_eq_true rfl, Nat.le_of_ble_eq_true rfl⟩) (fx_preV (m_recv hK hP) hP hK hN) rfl rfl hl.1 rfl (lv_room (Nat.le_of_ble_eq_true rfl)) dXM_sortHeads_7 ⟨Nat.le_of_ble_eq_true rfl, Nat.le_of_ble_eq_true rfl⟩) hS (fun _ _ q => q) (fun _ q => q) (fun u t H locs ht hvm h hP hz hk hS => ?_)
  rw [fxC, ht] at hP
  obtain ⟨I_2, J_2, cn_2, cm_2, so_2⟩ := u
  dsimp only at h
  exact W.vret hx hb hr (fun t ht hW => ⟨⟨(I_2, J_2, cn_2, cm_2, so_2), rfl, h, by rw [fxC, ht]; exact hP⟩, hS.F ht⟩) hS.2.2 dXM_sortHeads_10 hlocks
set_option maxRecDepth 100000 in
set_option maxHeartbeats 4000000 in
theorem cMsortHeads {l : Launch} {D : va_G} {A : Nat → Prop} {h0 : Nat} {ad : Nat → Nat} {cI cL : ClassId} (hD : mDs A h0 ad cI cL) {post : (Nat → Nat → Int32) → (Nat → Nat → Int64) → Int32 → Int64 → Int32 → Prop} {I : Nat → Nat → Int32} {J : Nat → Nat → Int64} {cn : Int32} {cm : Int64} {so : Int32} {a1 : Int32} (h : wMsortHeads post I J cn cm so a1) : Met l yXM_sortHeads (.code yXM_sortHeads cXM_sortHeads 2 none :: lg_tbl) ({ frames := 2, cells := 0, slots := 0, locals := 48 } : Room) (va_Pc [.ref h0, .int a1] (fxB (mW D h0 ad cI cL (I, J, cn, cm, so)) D vwCl (mTy cI cL))) (va_Qv (fun (u : mS) => post u.1 u.2.1 u.2.2.1 u.2.2.2.1 u.2.2.2.2) (fxC (mW D h0 ad cI cL)) A) 0 0 A := by
  refine fx_start (by decide +kernel) (Nat.le_of_ble_eq_true rfl) ?_
  intro p e s m below meth c ls hx hb hr hml hown hts hlocks hnm hB hl
  exact sMsortHeads_in ⟨hx, hb, hr, hml, hown, hts, hlocks, hB.2.1, hB.2.2, hD⟩ I J cn cm so a1 h _ _ ls hB.1 va_S.rf hl
noncomputable def wMwrite_80 (post : Int32 → (Nat → Nat → Int32) → (Nat → Nat → Int64) → Int32 → Int64 → Int32 → Prop) (n : Nat) : (Nat → Nat → Int32) → (Nat → Nat → Int64) → Int32 → Int64 → Int32 → Int32 → Int32 → Int32 → Prop := Nat.rec (motive := fun _ => (Nat → Nat → Int32) → (Nat → Nat → Int64) → Int32 → Int64 → Int32 → Int32 → Int32 → Int32 → Prop) (fun _ _ _ _ _ _ _ _ => False) (fun _ K80 I J cn cm so v1 v5 v6 => ((so ≤ v6 → (wMhashOfN (fun r16 I_16 J_16 cn_16 cm_16 so_16 => (wMcome (fun r17 I_17 J_17 cn_17 cm_17 so_17 => (post r17 I_17 J_17 cn_17 cm_17 so_17)) I_16 J_16 cn_16 r16 so_16 v1)) I J cn cm so )) ∧ (¬ so ≤ v6 → (vp_in v6 40 ∧ (vp_in (I 10 (Int32.toNatClampNeg v6)) 40 ∧ (vp_in (v6 - v5) 4 ∧ ∀ J20, J20 = mj_up J 7 (Int32.toNatClampNeg (v6 - v5)) (J 0 (Int32.toNatClampNeg (I 10 (Int32.toNatClampNeg v6)))) → (K80 I J20 cn cm so v1 v5 (v6 + 1)))))))) n
def wMwrite_32 (post : Int32 → (Nat → Nat → Int32) → (Nat → Nat → Int64) → Int32 → Int64 → Int32 → Prop) (I : Nat → Nat → Int32) (J : Nat → Nat → Int64) (cn : Int32) (cm : Int64) (so : Int32) (v1 : Int32) (v2 : Int32) (v3 : Int32) (v4 : Int32) (t0 : Int32) : Prop := (vp_in 0 5 ∧ ∀ I5, I5 = mi_up I 9 (Int32.toNatClampNeg 0) v1 → (vp_in 1 5 ∧ ∀ I7, I7 = mi_up I5 9 (Int32.toNatClampNeg 1) v2 → (vp_in 2 5 ∧ ∀ I9, I9 = mi_up I7 9 (Int32.toNatClampNeg 2) v3 → (vp_in 3 5 ∧ ∀ I11, I11 = mi_up I9 9 (Int32.toNatClampNeg 3) v4 → (vp_in 4 5 ∧ ∀ I13, I13 = mi_up I11 9 (Int32.toNatClampNeg 4) (so - t0) → (∃ k, wMwrite_80 post  k I13 J cn cm so v1 t0 t0))))))
def wMwrite (post : Int32 → (Nat → Nat → Int32) → (Nat → Nat → Int64) → Int32 → Int64 → Int32 → Prop) (I : Nat → Nat → Int32) (J : Nat → Nat → Int64) (cn : Int32) (cm : Int64) (so : Int32) (a1 : Int32) (a2 : Int32) (a3 : Int32) (a4 : Int32) : Prop := (wMisReplica (fun r1 I_1 J_1 cn_1 cm_1 so_1 => ((¬ r1 = 0 → (wMsortHeads (fun I_3 J_3 cn_3 cm_3 so_3 => ((so_3 ≤ 4 → (wMwrite_32 post  I_3 J_3 cn_3 cm_3 so_3 a1 a2 a3 a4 0)) ∧ (¬ so_3 ≤ 4 → (wMwrite_32 post  I_3 J_3 cn_3 cm_3 so_3 a1 a2 a3 a4 (so_3 - 4))))) I_1 J_1 cn_1 cm_1 so_1 a1)) ∧ (r1 = 0 → (post (-1) I_1 J_1 cn_1 cm_1 so_1)))) I J cn cm so a1)
set_option maxRecDepth 100000 in
set_option maxHeartbeats 4000000 in
theorem sMwrite_80 {p : Program} {l : Launch} {e : Env} {s : State} {m : MethodId} {args : Array Value} {below : List Frame} {meth : Method} {c : Code} {D : va_G} {A : Nat → Prop} {h0 : Nat} {ad : Nat → Nat} {cI cL : ClassId} {post : Int32 → (Nat → Nat → Int32) → (Nat → Nat → Int64) → Int32 → Int64 → Int32 → Prop} (C0 : mCx p s m args meth c D A h0 ad cI cL cXM_write 7 (some .int)) : ∀ (n : Nat) (I : Nat → Nat → Int32) (J : Nat → Nat → Int64) (cn : Int32) (cm : Int64) (so : Int32) (v1 : Int32) (v5 : Int32) (v6 : Int32), wMwrite_80 post  n I J cn cm so v1 v5 v6 → ∀ (H : Heap) (locs : List Loc) (ls : Array Slot), mW D h0 ad cI cL (I, J, cn, cm, so) H → va_S A s.heap H locs → lv_has ls 7 [(0, .ref h0), (1, .int v1), (5, .int v5), (6, .int v6)] → W p l e ({ frames := 5, cells := 0, slots := 0, locals := 121 } : Room) s m args below meth c H locs 0 0 (MQ below (va_Qi (fun (r : Int32) (u : mS) => post r u.1 u.2.1 u.2.2.1 u.2.2.2.1 u.2.2.2.2) (fxC (mW D h0 ad cI cL)) A) args s 0 0 A) (F0 m 80 ls []) := by
  obtain ⟨hx, hb, hr, hml, hown, hts, hlocks, hK, hN, hD⟩ := id C0
  intro n
  induction n with
  | zero => exact fun _ _ _ _ _ _ _ _ h => h.elim
  | succ n hK80 =>
    intro I J cn cm so v1 v5 v6 h H locs ls hP hS hl
    replace h : ((so ≤ v6 → (wMhashOfN (fun r16 I_16 J_16 cn_16 cm_16 so_16 => (wMcome (fun r17 I_17 J_17 cn_17 cm_17 so_17 => (post r17 I_17 J_17 cn_17 cm_17 so_17)) I_16 J_16 cn_16 r16 so_16 v1)) I J cn cm so )) ∧ (¬ so ≤ v6 → (vp_in v6 40 ∧ (vp_in (I 10 (Int32.toNatClampNeg v6)) 40 ∧ (vp_in (v6 - v5) 4 ∧ ∀ J20, J20 = mj_up J 7 (Int32.toNatClampNeg (v6 - v5)) (J 0 (Int32.toNatClampNeg (I 10 (Int32.toNatClampNeg v6)))) → ((wMwrite_80 post  n) I J20 cn cm so v1 v5 (v6 + 1))))))) := h
    refine lv_iload hx hb dXM_write_80 (lv_at hl 3 rfl) ?_
    refine lv_aload_n hx hb dXM_write_82 rfl (lv_at hl 0 rfl) ?_
    refine mg_sorted hx hb hown hts hK hP dXM_write_83 ?_
    refine lv_icmp_ge (tgt := 117) hx hb dXM_write_86 (by decide) (fun c15 => ?_) (fun c15 => ?_)
    · replace h := h.1 c15
      refine lv_aload_n hx hb dXM_write_117 rfl (lv_at hl 0 rfl) ?_
      refine lv_aload_n hx hb dXM_write_118 rfl (lv_at hl 0 rfl) ?_
      refine mg_numbers hx hb hown hts hK hP dXM_write_119 ?_
      refine lv_aload_n hx hb dXM_write_122 rfl (lv_at hl 0 rfl) ?_
      refine mg_comingLink hx hb hown hts hK hP dXM_write_123 ?_
      refine va_calll (va_runS (As := [.ref (ad 16), .ref (ad 17)]) (rest := [.ref h0]) ⟨hx, hb, hml, hown, hts⟩ (cMhashOfN hD h) (fx_cwS 2 hts gw_M_141 hdXM_hashOf ⟨Nat.le_of_ble_eq_true rfl, Nat.le_of_ble_eq_true rfl⟩) (fx_preS hP hK hN) rfl rfl hl.1 rfl (lv_room (Nat.le_of_ble_eq_true rfl)) dXM_write_126 ⟨Nat.le_of_ble_eq_true rfl, Nat.le_of_ble_eq_true rfl⟩) hS (fun _ _ q => q) (fun _ q => q) (fun r16 u t H locs ht hvm h hP hz hk hS => ?_)
      rw [fxC, ht] at hP
      obtain ⟨I_16, J_16, cn_16, cm_16, so_16⟩ := u
      dsimp only at h
      refine mp_coming hx hb hown hts hK hD hP hS dXM_write_129 (fun H locs hP hS => ?_)
      refine lv_aload_n hx hb dXM_write_132 rfl (lv_at hl 0 rfl) ?_
      refine lv_iload_n hx hb dXM_write_133 rfl (lv_at hl 1 rfl) ?_
      refine va_calli (va_runV (As := [.int v1]) (rest := []) ⟨hx, hb, hml, hown, hts⟩ (cMcome hD h) (fx_cwV 1 hts gw_M_145 hdXM_come ⟨Nat.le_of_ble_eq_true rfl, Nat.le_of_ble_eq_true rfl⟩) (fx_preV (m_recv hK hP) hP hK hN) rfl rfl hl.1 rfl (lv_room (Nat.le_of_ble_eq_true rfl)) dXM_write_134 ⟨Nat.le_of_ble_eq_true rfl, Nat.le_of_ble_eq_true rfl⟩) hS (fun _ _ q => q) (fun _ q => q) (fun r17 u t H locs ht hvm h hP hz hk hS => ?_)
      rw [fxC, ht] at hP
      obtain ⟨I_17, J_17, cn_17, cm_17, so_17⟩ := u
      dsimp only at h
      exact W.iret hx hb hr (fun t ht hW => ⟨⟨_, (I_17, J_17, cn_17, cm_17, so_17), rfl, h, by rw [fxC, ht]; exact hP⟩, hS.F ht⟩) hS.2.2 dXM_write_137 hlocks
    · replace h := h.2 c15
      refine lv_aload_n hx hb dXM_write_89 rfl (lv_at hl 0 rfl) ?_
      refine mg_comingLink hx hb hown hts hK hP dXM_write_90 ?_
      refine lv_iload hx hb dXM_write_93 (lv_at hl 3 rfl) ?_
      refine lv_iload hx hb dXM_write_95 (lv_at hl 2 rfl) ?_
      refine lv_isub hx hb dXM_write_97 ?_
      refine lv_aload_n hx hb dXM_write_98 rfl (lv_at hl 0 rfl) ?_
      refine mg_hash hx hb hown hts hK hP dXM_write_99 ?_
      refine lv_aload_n hx hb dXM_write_102 rfl (lv_at hl 0 rfl) ?_
      refine mg_order hx hb hown hts hK hP dXM_write_103 ?_
      refine lv_iload hx hb dXM_write_106 (lv_at hl 3 rfl) ?_
      obtain ⟨h18, h⟩ := h
      refine ma_18 hx hb hK hP h18 dXM_write_108 ?_
      obtain ⟨h19, h⟩ := h
      refine ma_0 hx hb hK hP h19 dXM_write_109 ?_
      obtain ⟨h21, h⟩ := h
      obtain ⟨J20, eJ20⟩ : ∃ y, y = mj_up J 7 (Int32.toNatClampNeg (v6 - v5)) (J 0 (Int32.toNatClampNeg (I 10 (Int32.toNatClampNeg v6)))) := ⟨_, rfl⟩
      replace h := h J20 eJ20
      refine ms_17 hx hb hK hD hP hS h21 dXM_write_110 (fun H locs hP hS => ?_)
      rw [← eJ20] at hP
      refine lv_iinc (v := v6 + 1) (lv' := [(6, .int (v6 + 1)), (0, .ref h0), (1, .int v1), (5, .int v5)]) hx hb dXM_write_111 hl (k := 3) rfl rfl (by decide) rfl (fun ls hl => ?_)
      refine lv_goto (tgt := 80) hx hb dXM_write_114 (by decide) ?_
      exact hK80 I J20 cn cm so v1 v5 (v6 + 1) h H locs ls hP hS (lv_sub hl [1, 2, 3, 0] rfl)
set_option maxRecDepth 100000 in
set_option maxHeartbeats 4000000 in
theorem sMwrite_32 {p : Program} {l : Launch} {e : Env} {s : State} {m : MethodId} {args : Array Value} {below : List Frame} {meth : Method} {c : Code} {D : va_G} {A : Nat → Prop} {h0 : Nat} {ad : Nat → Nat} {cI cL : ClassId} {post : Int32 → (Nat → Nat → Int32) → (Nat → Nat → Int64) → Int32 → Int64 → Int32 → Prop} (C0 : mCx p s m args meth c D A h0 ad cI cL cXM_write 7 (some .int)) : ∀ (I : Nat → Nat → Int32) (J : Nat → Nat → Int64) (cn : Int32) (cm : Int64) (so : Int32) (v1 : Int32) (v2 : Int32) (v3 : Int32) (v4 : Int32) (t0 : Int32), wMwrite_32 post  I J cn cm so v1 v2 v3 v4 t0 → ∀ (H : Heap) (locs : List Loc) (ls : Array Slot), mW D h0 ad cI cL (I, J, cn, cm, so) H → va_S A s.heap H locs → lv_has ls 7 [(0, .ref h0), (1, .int v1), (2, .int v2), (3, .int v3), (4, .int v4)] → W p l e ({ frames := 5, cells := 0, slots := 0, locals := 121 } : Room) s m args below meth c H locs 0 0 (MQ below (va_Qi (fun (r : Int32) (u : mS) => post r u.1 u.2.1 u.2.2.1 u.2.2.2.1 u.2.2.2.2) (fxC (mW D h0 ad cI cL)) A) args s 0 0 A) (F0 m 32 ls [.int t0]) := by
  obtain ⟨hx, hb, hr, hml, hown, hts, hlocks, hK, hN, hD⟩ := id C0
  intro I J cn cm so v1 v2 v3 v4 t0 h H locs ls hP hS hl
  replace h : (vp_in 0 5 ∧ ∀ I5, I5 = mi_up I 9 (Int32.toNatClampNeg 0) v1 → (vp_in 1 5 ∧ ∀ I7, I7 = mi_up I5 9 (Int32.toNatClampNeg 1) v2 → (vp_in 2 5 ∧ ∀ I9, I9 = mi_up I7 9 (Int32.toNatClampNeg 2) v3 → (vp_in 3 5 ∧ ∀ I11, I11 = mi_up I9 9 (Int32.toNatClampNeg 3) v4 → (vp_in 4 5 ∧ ∀ I13, I13 = mi_up I11 9 (Int32.toNatClampNeg 4) (so - t0) → (∃ k, wMwrite_80 post  k I13 J cn cm so v1 t0 t0)))))) := h
  refine lv_istore (lv' := [(5, .int t0), (0, .ref h0), (1, .int v1), (2, .int v2), (3, .int v3), (4, .int v4)]) hx hb dXM_write_32 hl (by decide) rfl (fun ls hl => ?_)
  refine lv_aload_n hx hb dXM_write_34 rfl (lv_at hl 1 rfl) ?_
  refine mg_numbers hx hb hown hts hK hP dXM_write_35 ?_
  refine lv_iconst (v := 0) hx hb dXM_write_38 (by decide) ?_
  refine lv_iload_n hx hb dXM_write_39 rfl (lv_at hl 2 rfl) ?_
  obtain ⟨h6, h⟩ := h
  obtain ⟨I5, eI5⟩ : ∃ y, y = mi_up I 9 (Int32.toNatClampNeg 0) v1 := ⟨_, rfl⟩
  replace h := h I5 eI5
  refine ms_16 hx hb hK hD hP hS h6 dXM_write_40 (fun H locs hP hS => ?_)
  rw [← eI5] at hP
  refine lv_aload_n hx hb dXM_write_41 rfl (lv_at hl 1 rfl) ?_
  refine mg_numbers hx hb hown hts hK hP dXM_write_42 ?_
  refine lv_iconst (v := 1) hx hb dXM_write_45 (by decide) ?_
  refine lv_iload_n hx hb dXM_write_46 rfl (lv_at hl 3 rfl) ?_
  obtain ⟨h8, h⟩ := h
  obtain ⟨I7, eI7⟩ : ∃ y, y = mi_up I5 9 (Int32.toNatClampNeg 1) v2 := ⟨_, rfl⟩
  replace h := h I7 eI7
  refine ms_16 hx hb hK hD hP hS h8 dXM_write_47 (fun H locs hP hS => ?_)
  rw [← eI7] at hP
  refine lv_aload_n hx hb dXM_write_48 rfl (lv_at hl 1 rfl) ?_
  refine mg_numbers hx hb hown hts hK hP dXM_write_49 ?_
  refine lv_iconst (v := 2) hx hb dXM_write_52 (by decide) ?_
  refine lv_iload_n hx hb dXM_write_53 rfl (lv_at hl 4 rfl) ?_
  obtain ⟨h10, h⟩ := h
  obtain ⟨I9, eI9⟩ : ∃ y, y = mi_up I7 9 (Int32.toNatClampNeg 2) v3 := ⟨_, rfl⟩
  replace h := h I9 eI9
  refine ms_16 hx hb hK hD hP hS h10 dXM_write_54 (fun H locs hP hS => ?_)
  rw [← eI9] at hP
  refine lv_aload_n hx hb dXM_write_55 rfl (lv_at hl 1 rfl) ?_
  refine mg_numbers hx hb hown hts hK hP dXM_write_56 ?_
  refine lv_iconst (v := 3) hx hb dXM_write_59 (by decide) ?_
  refine lv_iload hx hb dXM_write_60 (lv_at hl 5 rfl) ?_
  obtain ⟨h12, h⟩ := h
  obtain ⟨I11, eI11⟩ : ∃ y, y = mi_up I9 9 (Int32.toNatClampNeg 3) v4 := ⟨_, rfl⟩
  replace h := h I11 eI11
  refine ms_16 hx hb hK hD hP hS h12 dXM_write_62 (fun H locs hP hS => ?_)
  rw [← eI11] at hP
  refine lv_aload_n hx hb dXM_write_63 rfl (lv_at hl 1 rfl) ?_
  refine mg_numbers hx hb hown hts hK hP dXM_write_64 ?_
  refine lv_iconst (v := 4) hx hb dXM_write_67 (by decide) ?_
  refine lv_aload_n hx hb dXM_write_68 rfl (lv_at hl 1 rfl) ?_
  refine mg_sorted hx hb hown hts hK hP dXM_write_69 ?_
  refine lv_iload hx hb dXM_write_72 (lv_at hl 0 rfl) ?_
  refine lv_isub hx hb dXM_write_74 ?_
  obtain ⟨h14, h⟩ := h
  obtain ⟨I13, eI13⟩ : ∃ y, y = mi_up I11 9 (Int32.toNatClampNeg 4) (so - t0) := ⟨_, rfl⟩
  replace h := h I13 eI13
  refine ms_16 hx hb hK hD hP hS h14 dXM_write_75 (fun H locs hP hS => ?_)
  rw [← eI13] at hP
  refine lv_iload hx hb dXM_write_76 (lv_at hl 0 rfl) ?_
  refine lv_istore (lv' := [(6, .int t0), (5, .int t0), (0, .ref h0), (1, .int v1), (2, .int v2), (3, .int v3), (4, .int v4)]) hx hb dXM_write_78 hl (by decide) rfl (fun ls hl => ?_)
  obtain ⟨k, h⟩ := h
  exact sMwrite_80  C0  k I13 J cn cm so v1 t0 t0 h H locs ls hP hS (lv_sub hl [2, 3, 1, 0] rfl)
set_option maxRecDepth 100000 in
set_option maxHeartbeats 4000000 in
theorem sMwrite_in {p : Program} {l : Launch} {e : Env} {s : State} {m : MethodId} {args : Array Value} {below : List Frame} {meth : Method} {c : Code} {D : va_G} {A : Nat → Prop} {h0 : Nat} {ad : Nat → Nat} {cI cL : ClassId} {post : Int32 → (Nat → Nat → Int32) → (Nat → Nat → Int64) → Int32 → Int64 → Int32 → Prop} (C0 : mCx p s m args meth c D A h0 ad cI cL cXM_write 7 (some .int)) : ∀ (I : Nat → Nat → Int32) (J : Nat → Nat → Int64) (cn : Int32) (cm : Int64) (so : Int32) (a1 : Int32) (a2 : Int32) (a3 : Int32) (a4 : Int32), wMwrite post I J cn cm so a1 a2 a3 a4 → ∀ (H : Heap) (locs : List Loc) (ls : Array Slot), mW D h0 ad cI cL (I, J, cn, cm, so) H → va_S A s.heap H locs → lv_has ls 7 [(0, .ref h0), (1, .int a1), (2, .int a2), (3, .int a3), (4, .int a4)] → W p l e ({ frames := 5, cells := 0, slots := 0, locals := 121 } : Room) s m args below meth c H locs 0 0 (MQ below (va_Qi (fun (r : Int32) (u : mS) => post r u.1 u.2.1 u.2.2.1 u.2.2.2.1 u.2.2.2.2) (fxC (mW D h0 ad cI cL)) A) args s 0 0 A) (F0 m 0 ls []) := by
  obtain ⟨hx, hb, hr, hml, hown, hts, hlocks, hK, hN, hD⟩ := id C0
  intro I J cn cm so a1 a2 a3 a4 h H locs ls hP hS hl
  replace h : (wMisReplica (fun r1 I_1 J_1 cn_1 cm_1 so_1 => ((¬ r1 = 0 → (wMsortHeads (fun I_3 J_3 cn_3 cm_3 so_3 => ((so_3 ≤ 4 → (wMwrite_32 post  I_3 J_3 cn_3 cm_3 so_3 a1 a2 a3 a4 0)) ∧ (¬ so_3 ≤ 4 → (wMwrite_32 post  I_3 J_3 cn_3 cm_3 so_3 a1 a2 a3 a4 (so_3 - 4))))) I_1 J_1 cn_1 cm_1 so_1 a1)) ∧ (r1 = 0 → (post (-1) I_1 J_1 cn_1 cm_1 so_1)))) I J cn cm so a1) := h
  refine lv_iload_n hx hb dXM_write_0 rfl (lv_at hl 1 rfl) ?_
  refine va_calli (va_runS (As := [.int a1]) (rest := []) ⟨hx, hb, hml, hown, hts⟩ (cMisReplica hD h) (fx_cwS 1 hts gw_M_132 hdXM_isReplica ⟨Nat.le_of_ble_eq_true rfl, Nat.le_of_ble_eq_true rfl⟩) (fx_preS hP hK hN) rfl rfl hl.1 rfl (lv_room (Nat.le_of_ble_eq_true rfl)) dXM_write_1 ⟨Nat.le_of_ble_eq_true rfl, Nat.le_of_ble_eq_true rfl⟩) hS (fun _ _ q => q) (fun _ q => q) (fun r1 u t H locs ht hvm h hP hz hk hS => ?_)
  rw [fxC, ht] at hP
  obtain ⟨I_1, J_1, cn_1, cm_1, so_1⟩ := u
  dsimp only at h
  refine lv_if_ne (tgt := 9) hx hb dXM_write_4 (by decide) (fun c2 => ?_) (fun c2 => ?_)
  · replace h := h.1 c2
    refine lv_aload_n hx hb dXM_write_9 rfl (lv_at hl 0 rfl) ?_
    refine lv_iload_n hx hb dXM_write_10 rfl (lv_at hl 1 rfl) ?_
    refine va_callv (va_runV (As := [.int a1]) (rest := []) ⟨hx, hb, hml, hown, hts⟩ (cMsortHeads hD h) (fx_cwV 1 hts gw_M_135 hdXM_sortHeads ⟨Nat.le_of_ble_eq_true rfl, Nat.le_of_ble_eq_true rfl⟩) (fx_preV (m_recv hK hP) hP hK hN) rfl rfl hl.1 rfl (lv_room (Nat.le_of_ble_eq_true rfl)) dXM_write_11 ⟨Nat.le_of_ble_eq_true rfl, Nat.le_of_ble_eq_true rfl⟩) hS (fun _ _ q => q) (fun _ q => q) (fun u t H locs ht hvm h hP hz hk hS => ?_)
    rw [fxC, ht] at hP
    obtain ⟨I_3, J_3, cn_3, cm_3, so_3⟩ := u
    dsimp only at h
    refine lv_aload_n hx hb dXM_write_14 rfl (lv_at hl 0 rfl) ?_
    refine mg_sorted hx hb hown hts hK hP dXM_write_15 ?_
    refine lv_iconst (v := 4) hx hb dXM_write_18 (by decide) ?_
    refine lv_icmp_le (tgt := 31) hx hb dXM_write_19 (by decide) (fun c4 => ?_) (fun c4 => ?_)
    · replace h := h.1 c4
      refine lv_iconst (v := 0) hx hb dXM_write_31 (by decide) ?_
      exact sMwrite_32  C0  I_3 J_3 cn_3 cm_3 so_3 a1 a2 a3 a4 0 h H locs ls hP hS (lv_sub hl [0, 1, 2, 3, 4] rfl)
    · replace h := h.2 c4
      refine lv_aload_n hx hb dXM_write_22 rfl (lv_at hl 0 rfl) ?_
      refine mg_sorted hx hb hown hts hK hP dXM_write_23 ?_
      refine lv_iconst (v := 4) hx hb dXM_write_26 (by decide) ?_
      refine lv_isub hx hb dXM_write_27 ?_
      refine lv_goto (tgt := 32) hx hb dXM_write_28 (by decide) ?_
      exact sMwrite_32  C0  I_3 J_3 cn_3 cm_3 so_3 a1 a2 a3 a4 (so_3 - 4) h H locs ls hP hS (lv_sub hl [0, 1, 2, 3, 4] rfl)
  · replace h := h.2 c2
    refine lv_iconst (v := (-1)) hx hb dXM_write_7 (by decide) ?_
    exact W.iret hx hb hr (fun t ht hW => ⟨⟨_, (I_1, J_1, cn_1, cm_1, so_1), rfl, h, by rw [fxC, ht]; exact hP⟩, hS.F ht⟩) hS.2.2 dXM_write_8 hlocks
set_option maxRecDepth 100000 in
set_option maxHeartbeats 4000000 in
theorem cMwrite {l : Launch} {D : va_G} {A : Nat → Prop} {h0 : Nat} {ad : Nat → Nat} {cI cL : ClassId} (hD : mDs A h0 ad cI cL) {post : Int32 → (Nat → Nat → Int32) → (Nat → Nat → Int64) → Int32 → Int64 → Int32 → Prop} {I : Nat → Nat → Int32} {J : Nat → Nat → Int64} {cn : Int32} {cm : Int64} {so : Int32} {a1 : Int32} {a2 : Int32} {a3 : Int32} {a4 : Int32} (h : wMwrite post I J cn cm so a1 a2 a3 a4) : Met l yXM_write (.code yXM_write cXM_write 7 (some .int) :: lg_tbl) ({ frames := 5, cells := 0, slots := 0, locals := 121 } : Room) (va_Pc [.ref h0, .int a1, .int a2, .int a3, .int a4] (fxB (mW D h0 ad cI cL (I, J, cn, cm, so)) D vwCl (mTy cI cL))) (va_Qi (fun (r : Int32) (u : mS) => post r u.1 u.2.1 u.2.2.1 u.2.2.2.1 u.2.2.2.2) (fxC (mW D h0 ad cI cL)) A) 0 0 A := by
  refine fx_start (by decide +kernel) (Nat.le_of_ble_eq_true rfl) ?_
  intro p e s m below meth c ls hx hb hr hml hown hts hlocks hnm hB hl
  exact sMwrite_in ⟨hx, hb, hr, hml, hown, hts, hlocks, hB.2.1, hB.2.2, hD⟩ I J cn cm so a1 a2 a3 a4 h _ _ ls hB.1 va_S.rf hl
def wMdraft (post : (Nat → Nat → Int32) → (Nat → Nat → Int64) → Int32 → Int64 → Int32 → Prop) (I : Nat → Nat → Int32) (J : Nat → Nat → Int64) (cn : Int32) (cm : Int64) (so : Int32) (a1 : Int32) (a2 : Int32) (a3 : Int32) (a4 : Int32) : Prop := (vp_in 0 5 ∧ ∀ I1, I1 = mi_up I 8 (Int32.toNatClampNeg 0) a1 → (vp_in 1 5 ∧ ∀ I3, I3 = mi_up I1 8 (Int32.toNatClampNeg 1) a2 → (vp_in 2 5 ∧ ∀ I5, I5 = mi_up I3 8 (Int32.toNatClampNeg 2) a3 → (vp_in 3 5 ∧ ∀ I7, I7 = mi_up I5 8 (Int32.toNatClampNeg 3) a4 → (vp_in 4 5 ∧ ∀ I9, I9 = mi_up I7 8 (Int32.toNatClampNeg 4) 0 → (post I9 J cn cm so))))))
set_option maxRecDepth 100000 in
set_option maxHeartbeats 4000000 in
theorem sMdraft_in {p : Program} {l : Launch} {e : Env} {s : State} {m : MethodId} {args : Array Value} {below : List Frame} {meth : Method} {c : Code} {D : va_G} {A : Nat → Prop} {h0 : Nat} {ad : Nat → Nat} {cI cL : ClassId} {post : (Nat → Nat → Int32) → (Nat → Nat → Int64) → Int32 → Int64 → Int32 → Prop} (C0 : mCx p s m args meth c D A h0 ad cI cL cXM_draft 5 none) : ∀ (I : Nat → Nat → Int32) (J : Nat → Nat → Int64) (cn : Int32) (cm : Int64) (so : Int32) (a1 : Int32) (a2 : Int32) (a3 : Int32) (a4 : Int32), wMdraft post I J cn cm so a1 a2 a3 a4 → ∀ (H : Heap) (locs : List Loc) (ls : Array Slot), mW D h0 ad cI cL (I, J, cn, cm, so) H → va_S A s.heap H locs → lv_has ls 5 [(0, .ref h0), (1, .int a1), (2, .int a2), (3, .int a3), (4, .int a4)] → W p l e ({ frames := 0, cells := 0, slots := 0, locals := 0 } : Room) s m args below meth c H locs 0 0 (MQ below (va_Qv (fun (u : mS) => post u.1 u.2.1 u.2.2.1 u.2.2.2.1 u.2.2.2.2) (fxC (mW D h0 ad cI cL)) A) args s 0 0 A) (F0 m 0 ls []) := by
  obtain ⟨hx, hb, hr, hml, hown, hts, hlocks, hK, hN, hD⟩ := id C0
  intro I J cn cm so a1 a2 a3 a4 h H locs ls hP hS hl
  replace h : (vp_in 0 5 ∧ ∀ I1, I1 = mi_up I 8 (Int32.toNatClampNeg 0) a1 → (vp_in 1 5 ∧ ∀ I3, I3 = mi_up I1 8 (Int32.toNatClampNeg 1) a2 → (vp_in 2 5 ∧ ∀ I5, I5 = mi_up I3 8 (Int32.toNatClampNeg 2) a3 → (vp_in 3 5 ∧ ∀ I7, I7 = mi_up I5 8 (Int32.toNatClampNeg 3) a4 → (vp_in 4 5 ∧ ∀ I9, I9 = mi_up I7 8 (Int32.toNatClampNeg 4) 0 → (post I9 J cn cm so)))))) := h
  refine lv_aload_n hx hb dXM_draft_0 rfl (lv_at hl 0 rfl) ?_
  refine mg_draftNumbers hx hb hown hts hK hP dXM_draft_1 ?_
  refine lv_iconst (v := 0) hx hb dXM_draft_4 (by decide) ?_
  refine lv_iload_n hx hb dXM_draft_5 rfl (lv_at hl 1 rfl) ?_
  obtain ⟨h2, h⟩ := h
  obtain ⟨I1, eI1⟩ : ∃ y, y = mi_up I 8 (Int32.toNatClampNeg 0) a1 := ⟨_, rfl⟩
  replace h := h I1 eI1
  refine ms_14 hx hb hK hD hP hS h2 dXM_draft_6 (fun H locs hP hS => ?_)
  rw [← eI1] at hP
  refine lv_aload_n hx hb dXM_draft_7 rfl (lv_at hl 0 rfl) ?_
  refine mg_draftNumbers hx hb hown hts hK hP dXM_draft_8 ?_
  refine lv_iconst (v := 1) hx hb dXM_draft_11 (by decide) ?_
  refine lv_iload_n hx hb dXM_draft_12 rfl (lv_at hl 2 rfl) ?_
  obtain ⟨h4, h⟩ := h
  obtain ⟨I3, eI3⟩ : ∃ y, y = mi_up I1 8 (Int32.toNatClampNeg 1) a2 := ⟨_, rfl⟩
  replace h := h I3 eI3
  refine ms_14 hx hb hK hD hP hS h4 dXM_draft_13 (fun H locs hP hS => ?_)
  rw [← eI3] at hP
  refine lv_aload_n hx hb dXM_draft_14 rfl (lv_at hl 0 rfl) ?_
  refine mg_draftNumbers hx hb hown hts hK hP dXM_draft_15 ?_
  refine lv_iconst (v := 2) hx hb dXM_draft_18 (by decide) ?_
  refine lv_iload_n hx hb dXM_draft_19 rfl (lv_at hl 3 rfl) ?_
  obtain ⟨h6, h⟩ := h
  obtain ⟨I5, eI5⟩ : ∃ y, y = mi_up I3 8 (Int32.toNatClampNeg 2) a3 := ⟨_, rfl⟩
  replace h := h I5 eI5
  refine ms_14 hx hb hK hD hP hS h6 dXM_draft_20 (fun H locs hP hS => ?_)
  rw [← eI5] at hP
  refine lv_aload_n hx hb dXM_draft_21 rfl (lv_at hl 0 rfl) ?_
  refine mg_draftNumbers hx hb hown hts hK hP dXM_draft_22 ?_
  refine lv_iconst (v := 3) hx hb dXM_draft_25 (by decide) ?_
  refine lv_iload hx hb dXM_draft_26 (lv_at hl 4 rfl) ?_
  obtain ⟨h8, h⟩ := h
  obtain ⟨I7, eI7⟩ : ∃ y, y = mi_up I5 8 (Int32.toNatClampNeg 3) a4 := ⟨_, rfl⟩
  replace h := h I7 eI7
  refine ms_14 hx hb hK hD hP hS h8 dXM_draft_28 (fun H locs hP hS => ?_)
  rw [← eI7] at hP
  refine lv_aload_n hx hb dXM_draft_29 rfl (lv_at hl 0 rfl) ?_
  refine mg_draftNumbers hx hb hown hts hK hP dXM_draft_30 ?_
  refine lv_iconst (v := 4) hx hb dXM_draft_33 (by decide) ?_
  refine lv_iconst (v := 0) hx hb dXM_draft_34 (by decide) ?_
  obtain ⟨h10, h⟩ := h
  obtain ⟨I9, eI9⟩ : ∃ y, y = mi_up I7 8 (Int32.toNatClampNeg 4) 0 := ⟨_, rfl⟩
  replace h := h I9 eI9
  refine ms_14 hx hb hK hD hP hS h10 dXM_draft_35 (fun H locs hP hS => ?_)
  rw [← eI9] at hP
  exact W.vret hx hb hr (fun t ht hW => ⟨⟨(I9, J, cn, cm, so), rfl, h, by rw [fxC, ht]; exact hP⟩, hS.F ht⟩) hS.2.2 dXM_draft_36 hlocks
set_option maxRecDepth 100000 in
set_option maxHeartbeats 4000000 in
theorem cMdraft {l : Launch} {D : va_G} {A : Nat → Prop} {h0 : Nat} {ad : Nat → Nat} {cI cL : ClassId} (hD : mDs A h0 ad cI cL) {post : (Nat → Nat → Int32) → (Nat → Nat → Int64) → Int32 → Int64 → Int32 → Prop} {I : Nat → Nat → Int32} {J : Nat → Nat → Int64} {cn : Int32} {cm : Int64} {so : Int32} {a1 : Int32} {a2 : Int32} {a3 : Int32} {a4 : Int32} (h : wMdraft post I J cn cm so a1 a2 a3 a4) : Met l yXM_draft (.code yXM_draft cXM_draft 5 none :: lg_tbl) ({ frames := 0, cells := 0, slots := 0, locals := 0 } : Room) (va_Pc [.ref h0, .int a1, .int a2, .int a3, .int a4] (fxB (mW D h0 ad cI cL (I, J, cn, cm, so)) D vwCl (mTy cI cL))) (va_Qv (fun (u : mS) => post u.1 u.2.1 u.2.2.1 u.2.2.2.1 u.2.2.2.2) (fxC (mW D h0 ad cI cL)) A) 0 0 A := by
  refine fx_start (by decide +kernel) (Nat.le_of_ble_eq_true rfl) ?_
  intro p e s m below meth c ls hx hb hr hml hown hts hlocks hnm hB hl
  exact sMdraft_in ⟨hx, hb, hr, hml, hown, hts, hlocks, hB.2.1, hB.2.2, hD⟩ I J cn cm so a1 a2 a3 a4 h _ _ ls hB.1 va_S.rf hl
def wMlink (post : Int32 → (Nat → Nat → Int32) → (Nat → Nat → Int64) → Int32 → Int64 → Int32 → Prop) (I : Nat → Nat → Int32) (J : Nat → Nat → Int64) (cn : Int32) (cm : Int64) (so : Int32) (a1 : Int64) : Prop := (vp_in 4 5 ∧ ((¬ (I 8 (Int32.toNatClampNeg 4)) = 4 → (vp_in 4 5 ∧ (vp_in (I 8 (Int32.toNatClampNeg 4)) 4 ∧ ∀ J4, J4 = mj_up J 6 (Int32.toNatClampNeg (I 8 (Int32.toNatClampNeg 4))) a1 → (vp_in 4 5 ∧ (vp_in 4 5 ∧ ∀ I7, I7 = mi_up I 8 (Int32.toNatClampNeg 4) ((I 8 (Int32.toNatClampNeg 4)) + 1) → (post 1 I7 J4 cn cm so)))))) ∧ ((I 8 (Int32.toNatClampNeg 4)) = 4 → (post 0 I J cn cm so))))
set_option maxRecDepth 100000 in
set_option maxHeartbeats 4000000 in
theorem sMlink_in {p : Program} {l : Launch} {e : Env} {s : State} {m : MethodId} {args : Array Value} {below : List Frame} {meth : Method} {c : Code} {D : va_G} {A : Nat → Prop} {h0 : Nat} {ad : Nat → Nat} {cI cL : ClassId} {post : Int32 → (Nat → Nat → Int32) → (Nat → Nat → Int64) → Int32 → Int64 → Int32 → Prop} (C0 : mCx p s m args meth c D A h0 ad cI cL cXM_link 3 (some .boolean)) : ∀ (I : Nat → Nat → Int32) (J : Nat → Nat → Int64) (cn : Int32) (cm : Int64) (so : Int32) (a1 : Int64), wMlink post I J cn cm so a1 → ∀ (H : Heap) (locs : List Loc) (ls : Array Slot), mW D h0 ad cI cL (I, J, cn, cm, so) H → va_S A s.heap H locs → lv_has ls 3 [(0, .ref h0), (1, .long a1)] → W p l e ({ frames := 0, cells := 0, slots := 0, locals := 0 } : Room) s m args below meth c H locs 0 0 (MQ below (va_Qi (fun (r : Int32) (u : mS) => post r u.1 u.2.1 u.2.2.1 u.2.2.2.1 u.2.2.2.2) (fxC (mW D h0 ad cI cL)) A) args s 0 0 A) (F0 m 0 ls []) := by
  obtain ⟨hx, hb, hr, hml, hown, hts, hlocks, hK, hN, hD⟩ := id C0
  intro I J cn cm so a1 h H locs ls hP hS hl
  replace h : (vp_in 4 5 ∧ ((¬ (I 8 (Int32.toNatClampNeg 4)) = 4 → (vp_in 4 5 ∧ (vp_in (I 8 (Int32.toNatClampNeg 4)) 4 ∧ ∀ J4, J4 = mj_up J 6 (Int32.toNatClampNeg (I 8 (Int32.toNatClampNeg 4))) a1 → (vp_in 4 5 ∧ (vp_in 4 5 ∧ ∀ I7, I7 = mi_up I 8 (Int32.toNatClampNeg 4) ((I 8 (Int32.toNatClampNeg 4)) + 1) → (post 1 I7 J4 cn cm so)))))) ∧ ((I 8 (Int32.toNatClampNeg 4)) = 4 → (post 0 I J cn cm so)))) := h
  refine lv_aload_n hx hb dXM_link_0 rfl (lv_at hl 0 rfl) ?_
  refine mg_draftNumbers hx hb hown hts hK hP dXM_link_1 ?_
  refine lv_iconst (v := 4) hx hb dXM_link_4 (by decide) ?_
  obtain ⟨h1, h⟩ := h
  refine ma_14 hx hb hK hP h1 dXM_link_5 ?_
  refine lv_iconst (v := 4) hx hb dXM_link_6 (by decide) ?_
  refine lv_icmp_ne (tgt := 12) hx hb dXM_link_7 (by decide) (fun c2 => ?_) (fun c2 => ?_)
  · replace h := h.1 c2
    refine lv_aload_n hx hb dXM_link_12 rfl (lv_at hl 0 rfl) ?_
    refine mg_draftLink hx hb hown hts hK hP dXM_link_13 ?_
    refine lv_aload_n hx hb dXM_link_16 rfl (lv_at hl 0 rfl) ?_
    refine mg_draftNumbers hx hb hown hts hK hP dXM_link_17 ?_
    refine lv_iconst (v := 4) hx hb dXM_link_20 (by decide) ?_
    obtain ⟨h3, h⟩ := h
    refine ma_14 hx hb hK hP h3 dXM_link_21 ?_
    refine lv_lload_n hx hb dXM_link_22 rfl (lv_at hl 1 rfl) ?_
    obtain ⟨h5, h⟩ := h
    obtain ⟨J4, eJ4⟩ : ∃ y, y = mj_up J 6 (Int32.toNatClampNeg (I 8 (Int32.toNatClampNeg 4))) a1 := ⟨_, rfl⟩
    replace h := h J4 eJ4
    refine ms_15 hx hb hK hD hP hS h5 dXM_link_23 (fun H locs hP hS => ?_)
    rw [← eJ4] at hP
    refine lv_aload_n hx hb dXM_link_24 rfl (lv_at hl 0 rfl) ?_
    refine mg_draftNumbers hx hb hown hts hK hP dXM_link_25 ?_
    refine lv_iconst (v := 4) hx hb dXM_link_28 (by decide) ?_
    refine lv_dup2_11 hx hb dXM_link_29 rfl rfl ?_
    obtain ⟨h6, h⟩ := h
    refine ma_14 hx hb hK hP h6 dXM_link_30 ?_
    refine lv_iconst (v := 1) hx hb dXM_link_31 (by decide) ?_
    refine lv_iadd hx hb dXM_link_32 ?_
    obtain ⟨h8, h⟩ := h
    obtain ⟨I7, eI7⟩ : ∃ y, y = mi_up I 8 (Int32.toNatClampNeg 4) ((I 8 (Int32.toNatClampNeg 4)) + 1) := ⟨_, rfl⟩
    replace h := h I7 eI7
    refine ms_14 hx hb hK hD hP hS h8 dXM_link_33 (fun H locs hP hS => ?_)
    rw [← eI7] at hP
    refine lv_iconst (v := 1) hx hb dXM_link_34 (by decide) ?_
    exact W.zret hx hb hr rfl (fun t ht hW => ⟨⟨_, (I7, J4, cn, cm, so), rfl, h, by rw [fxC, ht]; exact hP⟩, hS.F ht⟩) hS.2.2 dXM_link_35 hlocks
  · replace h := h.2 c2
    refine lv_iconst (v := 0) hx hb dXM_link_10 (by decide) ?_
    exact W.zret hx hb hr rfl (fun t ht hW => ⟨⟨_, (I, J, cn, cm, so), rfl, h, by rw [fxC, ht]; exact hP⟩, hS.F ht⟩) hS.2.2 dXM_link_11 hlocks
set_option maxRecDepth 100000 in
set_option maxHeartbeats 4000000 in
theorem cMlink {l : Launch} {D : va_G} {A : Nat → Prop} {h0 : Nat} {ad : Nat → Nat} {cI cL : ClassId} (hD : mDs A h0 ad cI cL) {post : Int32 → (Nat → Nat → Int32) → (Nat → Nat → Int64) → Int32 → Int64 → Int32 → Prop} {I : Nat → Nat → Int32} {J : Nat → Nat → Int64} {cn : Int32} {cm : Int64} {so : Int32} {a1 : Int64} (h : wMlink post I J cn cm so a1) : Met l yXM_link (.code yXM_link cXM_link 3 (some .boolean) :: lg_tbl) ({ frames := 0, cells := 0, slots := 0, locals := 0 } : Room) (va_Pc [.ref h0, .long a1] (fxB (mW D h0 ad cI cL (I, J, cn, cm, so)) D vwCl (mTy cI cL))) (va_Qi (fun (r : Int32) (u : mS) => post r u.1 u.2.1 u.2.2.1 u.2.2.2.1 u.2.2.2.2) (fxC (mW D h0 ad cI cL)) A) 0 0 A := by
  refine fx_start (by decide +kernel) (Nat.le_of_ble_eq_true rfl) ?_
  intro p e s m below meth c ls hx hb hr hml hown hts hlocks hnm hB hl
  exact sMlink_in ⟨hx, hb, hr, hml, hown, hts, hlocks, hB.2.1, hB.2.2, hD⟩ I J cn cm so a1 h _ _ ls hB.1 va_S.rf hl
def wMdraftHash (post : Int64 → (Nat → Nat → Int32) → (Nat → Nat → Int64) → Int32 → Int64 → Int32 → Prop) (I : Nat → Nat → Int32) (J : Nat → Nat → Int64) (cn : Int32) (cm : Int64) (so : Int32) : Prop := (wMhashOfD (fun r1 I_1 J_1 cn_1 cm_1 so_1 => (post r1 I_1 J_1 cn_1 cm_1 so_1)) I J cn cm so )
set_option maxRecDepth 100000 in
set_option maxHeartbeats 4000000 in
theorem sMdraftHash_in {p : Program} {l : Launch} {e : Env} {s : State} {m : MethodId} {args : Array Value} {below : List Frame} {meth : Method} {c : Code} {D : va_G} {A : Nat → Prop} {h0 : Nat} {ad : Nat → Nat} {cI cL : ClassId} {post : Int64 → (Nat → Nat → Int32) → (Nat → Nat → Int64) → Int32 → Int64 → Int32 → Prop} (C0 : mCx p s m args meth c D A h0 ad cI cL cXM_draftHash 1 (some .long)) : ∀ (I : Nat → Nat → Int32) (J : Nat → Nat → Int64) (cn : Int32) (cm : Int64) (so : Int32), wMdraftHash post I J cn cm so → ∀ (H : Heap) (locs : List Loc) (ls : Array Slot), mW D h0 ad cI cL (I, J, cn, cm, so) H → va_S A s.heap H locs → lv_has ls 1 [(0, .ref h0)] → W p l e ({ frames := 2, cells := 0, slots := 0, locals := 49 } : Room) s m args below meth c H locs 0 0 (MQ below (va_Ql (fun (r : Int64) (u : mS) => post r u.1 u.2.1 u.2.2.1 u.2.2.2.1 u.2.2.2.2) (fxC (mW D h0 ad cI cL)) A) args s 0 0 A) (F0 m 0 ls []) := by
  obtain ⟨hx, hb, hr, hml, hown, hts, hlocks, hK, hN, hD⟩ := id C0
  intro I J cn cm so h H locs ls hP hS hl
  replace h : (wMhashOfD (fun r1 I_1 J_1 cn_1 cm_1 so_1 => (post r1 I_1 J_1 cn_1 cm_1 so_1)) I J cn cm so ) := h
  refine lv_aload_n hx hb dXM_draftHash_0 rfl (lv_at hl 0 rfl) ?_
  refine mg_draftNumbers hx hb hown hts hK hP dXM_draftHash_1 ?_
  refine lv_aload_n hx hb dXM_draftHash_4 rfl (lv_at hl 0 rfl) ?_
  refine mg_draftLink hx hb hown hts hK hP dXM_draftHash_5 ?_
  refine va_calll (va_runS (As := [.ref (ad 14), .ref (ad 15)]) (rest := []) ⟨hx, hb, hml, hown, hts⟩ (cMhashOfD hD h) (fx_cwS 2 hts gw_M_141 hdXM_hashOf ⟨Nat.le_of_ble_eq_true rfl, Nat.le_of_ble_eq_true rfl⟩) (fx_preS hP hK hN) rfl rfl hl.1 rfl (lv_room (Nat.le_of_ble_eq_true rfl)) dXM_draftHash_8 ⟨Nat.le_of_ble_eq_true rfl, Nat.le_of_ble_eq_true rfl⟩) hS (fun _ _ q => q) (fun _ q => q) (fun r1 u t H locs ht hvm h hP hz hk hS => ?_)
  rw [fxC, ht] at hP
  obtain ⟨I_1, J_1, cn_1, cm_1, so_1⟩ := u
  dsimp only at h
  exact W.lret hx hb hr (fun t ht hW => ⟨⟨_, (I_1, J_1, cn_1, cm_1, so_1), rfl, h, by rw [fxC, ht]; exact hP⟩, hS.F ht⟩) hS.2.2 dXM_draftHash_11 hlocks
set_option maxRecDepth 100000 in
set_option maxHeartbeats 4000000 in
theorem cMdraftHash {l : Launch} {D : va_G} {A : Nat → Prop} {h0 : Nat} {ad : Nat → Nat} {cI cL : ClassId} (hD : mDs A h0 ad cI cL) {post : Int64 → (Nat → Nat → Int32) → (Nat → Nat → Int64) → Int32 → Int64 → Int32 → Prop} {I : Nat → Nat → Int32} {J : Nat → Nat → Int64} {cn : Int32} {cm : Int64} {so : Int32} (h : wMdraftHash post I J cn cm so) : Met l yXM_draftHash (.code yXM_draftHash cXM_draftHash 1 (some .long) :: lg_tbl) ({ frames := 2, cells := 0, slots := 0, locals := 49 } : Room) (va_Pc [.ref h0] (fxB (mW D h0 ad cI cL (I, J, cn, cm, so)) D vwCl (mTy cI cL))) (va_Ql (fun (r : Int64) (u : mS) => post r u.1 u.2.1 u.2.2.1 u.2.2.2.1 u.2.2.2.2) (fxC (mW D h0 ad cI cL)) A) 0 0 A := by
  refine fx_start (by decide +kernel) (Nat.le_of_ble_eq_true rfl) ?_
  intro p e s m below meth c ls hx hb hr hml hown hts hlocks hnm hB hl
  exact sMdraftHash_in ⟨hx, hb, hr, hml, hown, hts, hlocks, hB.2.1, hB.2.2, hD⟩ I J cn cm so h _ _ ls hB.1 va_S.rf hl
noncomputable def wMoffer_36 (post : Int32 → (Nat → Nat → Int32) → (Nat → Nat → Int64) → Int32 → Int64 → Int32 → Prop) (n : Nat) : (Nat → Nat → Int32) → (Nat → Nat → Int64) → Int32 → Int64 → Int32 → Int32 → Int32 → Prop := Nat.rec (motive := fun _ => (Nat → Nat → Int32) → (Nat → Nat → Int64) → Int32 → Int64 → Int32 → Int32 → Int32 → Prop) (fun _ _ _ _ _ _ _ => False) (fun _ K36 I J cn cm so v1 v2 => ((4 ≤ v2 → (wMdraftHash (fun r8 I_8 J_8 cn_8 cm_8 so_8 => (wMcome (fun r9 I_9 J_9 cn_9 cm_9 so_9 => (post r9 I_9 J_9 cn_9 cm_9 so_9)) I_8 J_8 cn_8 r8 so_8 v1)) I J cn cm so )) ∧ (¬ 4 ≤ v2 → (vp_in v2 4 ∧ (vp_in v2 4 ∧ ∀ J11, J11 = mj_up J 7 (Int32.toNatClampNeg v2) (J 6 (Int32.toNatClampNeg v2)) → (K36 I J11 cn cm so v1 (v2 + 1))))))) n
noncomputable def wMoffer_11 (post : Int32 → (Nat → Nat → Int32) → (Nat → Nat → Int64) → Int32 → Int64 → Int32 → Prop) (n : Nat) : (Nat → Nat → Int32) → (Nat → Nat → Int64) → Int32 → Int64 → Int32 → Int32 → Int32 → Prop := Nat.rec (motive := fun _ => (Nat → Nat → Int32) → (Nat → Nat → Int64) → Int32 → Int64 → Int32 → Int32 → Int32 → Prop) (fun _ _ _ _ _ _ _ => False) (fun _ K11 I J cn cm so v1 v2 => ((5 ≤ v2 → (∃ k, wMoffer_36 post  k I J cn cm so v1 0)) ∧ (¬ 5 ≤ v2 → (vp_in v2 5 ∧ (vp_in v2 5 ∧ ∀ I5, I5 = mi_up I 9 (Int32.toNatClampNeg v2) (I 8 (Int32.toNatClampNeg v2)) → (K11 I5 J cn cm so v1 (v2 + 1))))))) n
def wMoffer (post : Int32 → (Nat → Nat → Int32) → (Nat → Nat → Int64) → Int32 → Int64 → Int32 → Prop) (I : Nat → Nat → Int32) (J : Nat → Nat → Int64) (cn : Int32) (cm : Int64) (so : Int32) (a1 : Int32) : Prop := (wMisReplica (fun r1 I_1 J_1 cn_1 cm_1 so_1 => ((¬ r1 = 0 → (∃ k, wMoffer_11 post  k I_1 J_1 cn_1 cm_1 so_1 a1 0)) ∧ (r1 = 0 → (post (-1) I_1 J_1 cn_1 cm_1 so_1)))) I J cn cm so a1)
set_option maxRecDepth 100000 in
set_option maxHeartbeats 4000000 in
theorem sMoffer_36 {p : Program} {l : Launch} {e : Env} {s : State} {m : MethodId} {args : Array Value} {below : List Frame} {meth : Method} {c : Code} {D : va_G} {A : Nat → Prop} {h0 : Nat} {ad : Nat → Nat} {cI cL : ClassId} {post : Int32 → (Nat → Nat → Int32) → (Nat → Nat → Int64) → Int32 → Int64 → Int32 → Prop} (C0 : mCx p s m args meth c D A h0 ad cI cL cXM_offer 3 (some .int)) : ∀ (n : Nat) (I : Nat → Nat → Int32) (J : Nat → Nat → Int64) (cn : Int32) (cm : Int64) (so : Int32) (v1 : Int32) (v2 : Int32), wMoffer_36 post  n I J cn cm so v1 v2 → ∀ (H : Heap) (locs : List Loc) (ls : Array Slot), mW D h0 ad cI cL (I, J, cn, cm, so) H → va_S A s.heap H locs → lv_has ls 3 [(0, .ref h0), (1, .int v1), (2, .int v2)] → W p l e ({ frames := 5, cells := 0, slots := 0, locals := 121 } : Room) s m args below meth c H locs 0 0 (MQ below (va_Qi (fun (r : Int32) (u : mS) => post r u.1 u.2.1 u.2.2.1 u.2.2.2.1 u.2.2.2.2) (fxC (mW D h0 ad cI cL)) A) args s 0 0 A) (F0 m 36 ls []) := by
  obtain ⟨hx, hb, hr, hml, hown, hts, hlocks, hK, hN, hD⟩ := id C0
  intro n
  induction n with
  | zero => exact fun _ _ _ _ _ _ _ h => h.elim
  | succ n hK36 =>
    intro I J cn cm so v1 v2 h H locs ls hP hS hl
    replace h : ((4 ≤ v2 → (wMdraftHash (fun r8 I_8 J_8 cn_8 cm_8 so_8 => (wMcome (fun r9 I_9 J_9 cn_9 cm_9 so_9 => (post r9 I_9 J_9 cn_9 cm_9 so_9)) I_8 J_8 cn_8 r8 so_8 v1)) I J cn cm so )) ∧ (¬ 4 ≤ v2 → (vp_in v2 4 ∧ (vp_in v2 4 ∧ ∀ J11, J11 = mj_up J 7 (Int32.toNatClampNeg v2) (J 6 (Int32.toNatClampNeg v2)) → ((wMoffer_36 post  n) I J11 cn cm so v1 (v2 + 1)))))) := h
    refine lv_iload_n hx hb dXM_offer_36 rfl (lv_at hl 2 rfl) ?_
    refine lv_iconst (v := 4) hx hb dXM_offer_37 (by decide) ?_
    refine lv_icmp_ge (tgt := 59) hx hb dXM_offer_38 (by decide) (fun c7 => ?_) (fun c7 => ?_)
    · replace h := h.1 c7
      refine lv_aload_n hx hb dXM_offer_59 rfl (lv_at hl 0 rfl) ?_
      refine lv_aload_n hx hb dXM_offer_60 rfl (lv_at hl 0 rfl) ?_
      refine va_calll (va_runV (As := []) (rest := [.ref h0]) ⟨hx, hb, hml, hown, hts⟩ (cMdraftHash hD h) (fx_cwV 0 hts gw_M_148 hdXM_draftHash ⟨Nat.le_of_ble_eq_true rfl, Nat.le_of_ble_eq_true rfl⟩) (fx_preV (m_recv hK hP) hP hK hN) rfl rfl hl.1 rfl (lv_room (Nat.le_of_ble_eq_true rfl)) dXM_offer_61 ⟨Nat.le_of_ble_eq_true rfl, Nat.le_of_ble_eq_true rfl⟩) hS (fun _ _ q => q) (fun _ q => q) (fun r8 u t H locs ht hvm h hP hz hk hS => ?_)
      rw [fxC, ht] at hP
      obtain ⟨I_8, J_8, cn_8, cm_8, so_8⟩ := u
      dsimp only at h
      refine mp_coming hx hb hown hts hK hD hP hS dXM_offer_64 (fun H locs hP hS => ?_)
      refine lv_aload_n hx hb dXM_offer_67 rfl (lv_at hl 0 rfl) ?_
      refine lv_iload_n hx hb dXM_offer_68 rfl (lv_at hl 1 rfl) ?_
      refine va_calli (va_runV (As := [.int v1]) (rest := []) ⟨hx, hb, hml, hown, hts⟩ (cMcome hD h) (fx_cwV 1 hts gw_M_145 hdXM_come ⟨Nat.le_of_ble_eq_true rfl, Nat.le_of_ble_eq_true rfl⟩) (fx_preV (m_recv hK hP) hP hK hN) rfl rfl hl.1 rfl (lv_room (Nat.le_of_ble_eq_true rfl)) dXM_offer_69 ⟨Nat.le_of_ble_eq_true rfl, Nat.le_of_ble_eq_true rfl⟩) hS (fun _ _ q => q) (fun _ q => q) (fun r9 u t H locs ht hvm h hP hz hk hS => ?_)
      rw [fxC, ht] at hP
      obtain ⟨I_9, J_9, cn_9, cm_9, so_9⟩ := u
      dsimp only at h
      exact W.iret hx hb hr (fun t ht hW => ⟨⟨_, (I_9, J_9, cn_9, cm_9, so_9), rfl, h, by rw [fxC, ht]; exact hP⟩, hS.F ht⟩) hS.2.2 dXM_offer_72 hlocks
    · replace h := h.2 c7
      refine lv_aload_n hx hb dXM_offer_41 rfl (lv_at hl 0 rfl) ?_
      refine mg_comingLink hx hb hown hts hK hP dXM_offer_42 ?_
      refine lv_iload_n hx hb dXM_offer_45 rfl (lv_at hl 2 rfl) ?_
      refine lv_aload_n hx hb dXM_offer_46 rfl (lv_at hl 0 rfl) ?_
      refine mg_draftLink hx hb hown hts hK hP dXM_offer_47 ?_
      refine lv_iload_n hx hb dXM_offer_50 rfl (lv_at hl 2 rfl) ?_
      obtain ⟨h10, h⟩ := h
      refine ma_15 hx hb hK hP h10 dXM_offer_51 ?_
      obtain ⟨h12, h⟩ := h
      obtain ⟨J11, eJ11⟩ : ∃ y, y = mj_up J 7 (Int32.toNatClampNeg v2) (J 6 (Int32.toNatClampNeg v2)) := ⟨_, rfl⟩
      replace h := h J11 eJ11
      refine ms_17 hx hb hK hD hP hS h12 dXM_offer_52 (fun H locs hP hS => ?_)
      rw [← eJ11] at hP
      refine lv_iinc (v := v2 + 1) (lv' := [(2, .int (v2 + 1)), (0, .ref h0), (1, .int v1)]) hx hb dXM_offer_53 hl (k := 2) rfl rfl (by decide) rfl (fun ls hl => ?_)
      refine lv_goto (tgt := 36) hx hb dXM_offer_56 (by decide) ?_
      exact hK36 I J11 cn cm so v1 (v2 + 1) h H locs ls hP hS (lv_sub hl [1, 2, 0] rfl)
set_option maxRecDepth 100000 in
set_option maxHeartbeats 4000000 in
theorem sMoffer_11 {p : Program} {l : Launch} {e : Env} {s : State} {m : MethodId} {args : Array Value} {below : List Frame} {meth : Method} {c : Code} {D : va_G} {A : Nat → Prop} {h0 : Nat} {ad : Nat → Nat} {cI cL : ClassId} {post : Int32 → (Nat → Nat → Int32) → (Nat → Nat → Int64) → Int32 → Int64 → Int32 → Prop} (C0 : mCx p s m args meth c D A h0 ad cI cL cXM_offer 3 (some .int)) : ∀ (n : Nat) (I : Nat → Nat → Int32) (J : Nat → Nat → Int64) (cn : Int32) (cm : Int64) (so : Int32) (v1 : Int32) (v2 : Int32), wMoffer_11 post  n I J cn cm so v1 v2 → ∀ (H : Heap) (locs : List Loc) (ls : Array Slot), mW D h0 ad cI cL (I, J, cn, cm, so) H → va_S A s.heap H locs → lv_has ls 3 [(0, .ref h0), (1, .int v1), (2, .int v2)] → W p l e ({ frames := 5, cells := 0, slots := 0, locals := 121 } : Room) s m args below meth c H locs 0 0 (MQ below (va_Qi (fun (r : Int32) (u : mS) => post r u.1 u.2.1 u.2.2.1 u.2.2.2.1 u.2.2.2.2) (fxC (mW D h0 ad cI cL)) A) args s 0 0 A) (F0 m 11 ls []) := by
  obtain ⟨hx, hb, hr, hml, hown, hts, hlocks, hK, hN, hD⟩ := id C0
  intro n
  induction n with
  | zero => exact fun _ _ _ _ _ _ _ h => h.elim
  | succ n hK11 =>
    intro I J cn cm so v1 v2 h H locs ls hP hS hl
    replace h : ((5 ≤ v2 → (∃ k, wMoffer_36 post  k I J cn cm so v1 0)) ∧ (¬ 5 ≤ v2 → (vp_in v2 5 ∧ (vp_in v2 5 ∧ ∀ I5, I5 = mi_up I 9 (Int32.toNatClampNeg v2) (I 8 (Int32.toNatClampNeg v2)) → ((wMoffer_11 post  n) I5 J cn cm so v1 (v2 + 1)))))) := h
    refine lv_iload_n hx hb dXM_offer_11 rfl (lv_at hl 2 rfl) ?_
    refine lv_iconst (v := 5) hx hb dXM_offer_12 (by decide) ?_
    refine lv_icmp_ge (tgt := 34) hx hb dXM_offer_13 (by decide) (fun c3 => ?_) (fun c3 => ?_)
    · replace h := h.1 c3
      refine lv_iconst (v := 0) hx hb dXM_offer_34 (by decide) ?_
      refine lv_istore_n (lv' := [(2, .int 0), (0, .ref h0), (1, .int v1)]) hx hb dXM_offer_35 rfl hl (by decide) rfl (fun ls hl => ?_)
      obtain ⟨k, h⟩ := h
      exact sMoffer_36  C0  k I J cn cm so v1 0 h H locs ls hP hS (lv_sub hl [1, 2, 0] rfl)
    · replace h := h.2 c3
      refine lv_aload_n hx hb dXM_offer_16 rfl (lv_at hl 0 rfl) ?_
      refine mg_numbers hx hb hown hts hK hP dXM_offer_17 ?_
      refine lv_iload_n hx hb dXM_offer_20 rfl (lv_at hl 2 rfl) ?_
      refine lv_aload_n hx hb dXM_offer_21 rfl (lv_at hl 0 rfl) ?_
      refine mg_draftNumbers hx hb hown hts hK hP dXM_offer_22 ?_
      refine lv_iload_n hx hb dXM_offer_25 rfl (lv_at hl 2 rfl) ?_
      obtain ⟨h4, h⟩ := h
      refine ma_14 hx hb hK hP h4 dXM_offer_26 ?_
      obtain ⟨h6, h⟩ := h
      obtain ⟨I5, eI5⟩ : ∃ y, y = mi_up I 9 (Int32.toNatClampNeg v2) (I 8 (Int32.toNatClampNeg v2)) := ⟨_, rfl⟩
      replace h := h I5 eI5
      refine ms_16 hx hb hK hD hP hS h6 dXM_offer_27 (fun H locs hP hS => ?_)
      rw [← eI5] at hP
      refine lv_iinc (v := v2 + 1) (lv' := [(2, .int (v2 + 1)), (0, .ref h0), (1, .int v1)]) hx hb dXM_offer_28 hl (k := 2) rfl rfl (by decide) rfl (fun ls hl => ?_)
      refine lv_goto (tgt := 11) hx hb dXM_offer_31 (by decide) ?_
      exact hK11 I5 J cn cm so v1 (v2 + 1) h H locs ls hP hS (lv_sub hl [1, 2, 0] rfl)
set_option maxRecDepth 100000 in
set_option maxHeartbeats 4000000 in
theorem sMoffer_in {p : Program} {l : Launch} {e : Env} {s : State} {m : MethodId} {args : Array Value} {below : List Frame} {meth : Method} {c : Code} {D : va_G} {A : Nat → Prop} {h0 : Nat} {ad : Nat → Nat} {cI cL : ClassId} {post : Int32 → (Nat → Nat → Int32) → (Nat → Nat → Int64) → Int32 → Int64 → Int32 → Prop} (C0 : mCx p s m args meth c D A h0 ad cI cL cXM_offer 3 (some .int)) : ∀ (I : Nat → Nat → Int32) (J : Nat → Nat → Int64) (cn : Int32) (cm : Int64) (so : Int32) (a1 : Int32), wMoffer post I J cn cm so a1 → ∀ (H : Heap) (locs : List Loc) (ls : Array Slot), mW D h0 ad cI cL (I, J, cn, cm, so) H → va_S A s.heap H locs → lv_has ls 3 [(0, .ref h0), (1, .int a1)] → W p l e ({ frames := 5, cells := 0, slots := 0, locals := 121 } : Room) s m args below meth c H locs 0 0 (MQ below (va_Qi (fun (r : Int32) (u : mS) => post r u.1 u.2.1 u.2.2.1 u.2.2.2.1 u.2.2.2.2) (fxC (mW D h0 ad cI cL)) A) args s 0 0 A) (F0 m 0 ls []) := by
  obtain ⟨hx, hb, hr, hml, hown, hts, hlocks, hK, hN, hD⟩ := id C0
  intro I J cn cm so a1 h H locs ls hP hS hl
  replace h : (wMisReplica (fun r1 I_1 J_1 cn_1 cm_1 so_1 => ((¬ r1 = 0 → (∃ k, wMoffer_11 post  k I_1 J_1 cn_1 cm_1 so_1 a1 0)) ∧ (r1 = 0 → (post (-1) I_1 J_1 cn_1 cm_1 so_1)))) I J cn cm so a1) := h
  refine lv_iload_n hx hb dXM_offer_0 rfl (lv_at hl 1 rfl) ?_
  refine va_calli (va_runS (As := [.int a1]) (rest := []) ⟨hx, hb, hml, hown, hts⟩ (cMisReplica hD h) (fx_cwS 1 hts gw_M_132 hdXM_isReplica ⟨Nat.le_of_ble_eq_true rfl, Nat.le_of_ble_eq_true rfl⟩) (fx_preS hP hK hN) rfl rfl hl.1 rfl (lv_room (Nat.le_of_ble_eq_true rfl)) dXM_offer_1 ⟨Nat.le_of_ble_eq_true rfl, Nat.le_of_ble_eq_true rfl⟩) hS (fun _ _ q => q) (fun _ q => q) (fun r1 u t H locs ht hvm h hP hz hk hS => ?_)
  rw [fxC, ht] at hP
  obtain ⟨I_1, J_1, cn_1, cm_1, so_1⟩ := u
  dsimp only at h
  refine lv_if_ne (tgt := 9) hx hb dXM_offer_4 (by decide) (fun c2 => ?_) (fun c2 => ?_)
  · replace h := h.1 c2
    refine lv_iconst (v := 0) hx hb dXM_offer_9 (by decide) ?_
    refine lv_istore_n (lv' := [(2, .int 0), (0, .ref h0), (1, .int a1)]) hx hb dXM_offer_10 rfl hl (by decide) rfl (fun ls hl => ?_)
    obtain ⟨k, h⟩ := h
    exact sMoffer_11  C0  k I_1 J_1 cn_1 cm_1 so_1 a1 0 h H locs ls hP hS (lv_sub hl [1, 2, 0] rfl)
  · replace h := h.2 c2
    refine lv_iconst (v := (-1)) hx hb dXM_offer_7 (by decide) ?_
    exact W.iret hx hb hr (fun t ht hW => ⟨⟨_, (I_1, J_1, cn_1, cm_1, so_1), rfl, h, by rw [fxC, ht]; exact hP⟩, hS.F ht⟩) hS.2.2 dXM_offer_8 hlocks
set_option maxRecDepth 100000 in
set_option maxHeartbeats 4000000 in
theorem cMoffer {l : Launch} {D : va_G} {A : Nat → Prop} {h0 : Nat} {ad : Nat → Nat} {cI cL : ClassId} (hD : mDs A h0 ad cI cL) {post : Int32 → (Nat → Nat → Int32) → (Nat → Nat → Int64) → Int32 → Int64 → Int32 → Prop} {I : Nat → Nat → Int32} {J : Nat → Nat → Int64} {cn : Int32} {cm : Int64} {so : Int32} {a1 : Int32} (h : wMoffer post I J cn cm so a1) : Met l yXM_offer (.code yXM_offer cXM_offer 3 (some .int) :: lg_tbl) ({ frames := 5, cells := 0, slots := 0, locals := 121 } : Room) (va_Pc [.ref h0, .int a1] (fxB (mW D h0 ad cI cL (I, J, cn, cm, so)) D vwCl (mTy cI cL))) (va_Qi (fun (r : Int32) (u : mS) => post r u.1 u.2.1 u.2.2.1 u.2.2.2.1 u.2.2.2.2) (fxC (mW D h0 ad cI cL)) A) 0 0 A := by
  refine fx_start (by decide +kernel) (Nat.le_of_ble_eq_true rfl) ?_
  intro p e s m below meth c ls hx hb hr hml hown hts hlocks hnm hB hl
  exact sMoffer_in ⟨hx, hb, hr, hml, hown, hts, hlocks, hB.2.1, hB.2.2, hD⟩ I J cn cm so a1 h _ _ ls hB.1 va_S.rf hl
noncomputable def wMlinkSet_17 (post : Int64 → (Nat → Nat → Int32) → (Nat → Nat → Int64) → Int32 → Int64 → Int32 → Prop) (K5 : (Nat → Nat → Int32) → (Nat → Nat → Int64) → Int32 → Int64 → Int32 → Int64 → Int64 → Int32 → Prop) (n : Nat) : (Nat → Nat → Int32) → (Nat → Nat → Int64) → Int32 → Int64 → Int32 → Int64 → Int64 → Int32 → Int32 → Prop := Nat.rec (motive := fun _ => (Nat → Nat → Int32) → (Nat → Nat → Int64) → Int32 → Int64 → Int32 → Int64 → Int64 → Int32 → Int32 → Prop) (fun _ _ _ _ _ _ _ _ _ => False) (fun _ K17 I J cn cm so v1 v3 v5 v6 => (vp_in v5 40 ∧ (((I 4 (Int32.toNatClampNeg v5)) ≤ v6 → (K5 I J cn cm so v1 v3 (v5 + 1))) ∧ (¬ (I 4 (Int32.toNatClampNeg v5)) ≤ v6 → (wMin (fun r4 I_4 J_4 cn_4 cm_4 so_4 => ((r4 = 0 → (K5 I_4 J_4 cn_4 cm_4 so_4 v1 v3 (v5 + 1))) ∧ (¬ r4 = 0 → (vp_in ((4 * v5) + v6) 160 ∧ (wMfind (fun r7 I_7 J_7 cn_7 cm_7 so_7 => (K17 I_7 J_7 cn_7 cm_7 so_7 v1 (v3 ||| (hj_shl 1 r7)) v5 (v6 + 1))) I_4 J_4 cn_4 cm_4 so_4 (J_4 1 (Int32.toNatClampNeg ((4 * v5) + v6)))))))) I J cn cm so v1 v5))))) n
noncomputable def wMlinkSet_5 (post : Int64 → (Nat → Nat → Int32) → (Nat → Nat → Int64) → Int32 → Int64 → Int32 → Prop) (n : Nat) : (Nat → Nat → Int32) → (Nat → Nat → Int64) → Int32 → Int64 → Int32 → Int64 → Int64 → Int32 → Prop := Nat.rec (motive := fun _ => (Nat → Nat → Int32) → (Nat → Nat → Int64) → Int32 → Int64 → Int32 → Int64 → Int64 → Int32 → Prop) (fun _ _ _ _ _ _ _ _ => False) (fun _ K5 I J cn cm so v1 v3 v5 => ((cn ≤ v5 → (post v3 I J cn cm so)) ∧ (¬ cn ≤ v5 → (∃ k, wMlinkSet_17 post K5 k I J cn cm so v1 v3 v5 0)))) n
def wMlinkSet (post : Int64 → (Nat → Nat → Int32) → (Nat → Nat → Int64) → Int32 → Int64 → Int32 → Prop) (I : Nat → Nat → Int32) (J : Nat → Nat → Int64) (cn : Int32) (cm : Int64) (so : Int32) (a1 : Int64) : Prop := (∃ k, wMlinkSet_5 post  k I J cn cm so a1 0 0)
set_option maxRecDepth 100000 in
set_option maxHeartbeats 4000000 in
theorem sMlinkSet_17 {p : Program} {l : Launch} {e : Env} {s : State} {m : MethodId} {args : Array Value} {below : List Frame} {meth : Method} {c : Code} {D : va_G} {A : Nat → Prop} {h0 : Nat} {ad : Nat → Nat} {cI cL : ClassId} {post : Int64 → (Nat → Nat → Int32) → (Nat → Nat → Int64) → Int32 → Int64 → Int32 → Prop} (C0 : mCx p s m args meth c D A h0 ad cI cL cXM_linkSet 7 (some .long)) {K5 : (Nat → Nat → Int32) → (Nat → Nat → Int64) → Int32 → Int64 → Int32 → Int64 → Int64 → Int32 → Prop} (hK5 : ∀ (I : Nat → Nat → Int32) (J : Nat → Nat → Int64) (cn : Int32) (cm : Int64) (so : Int32) (v1 : Int64) (v3 : Int64) (v5 : Int32), K5 I J cn cm so v1 v3 v5 → ∀ (H : Heap) (locs : List Loc) (ls : Array Slot), mW D h0 ad cI cL (I, J, cn, cm, so) H → va_S A s.heap H locs → lv_has ls 7 [(0, .ref h0), (1, .long v1), (3, .long v3), (5, .int v5)] → W p l e ({ frames := 1, cells := 0, slots := 0, locals := 24 } : Room) s m args below meth c H locs 0 0 (MQ below (va_Ql (fun (r : Int64) (u : mS) => post r u.1 u.2.1 u.2.2.1 u.2.2.2.1 u.2.2.2.2) (fxC (mW D h0 ad cI cL)) A) args s 0 0 A) (F0 m 5 ls [])) : ∀ (n : Nat) (I : Nat → Nat → Int32) (J : Nat → Nat → Int64) (cn : Int32) (cm : Int64) (so : Int32) (v1 : Int64) (v3 : Int64) (v5 : Int32) (v6 : Int32), wMlinkSet_17 post K5 n I J cn cm so v1 v3 v5 v6 → ∀ (H : Heap) (locs : List Loc) (ls : Array Slot), mW D h0 ad cI cL (I, J, cn, cm, so) H → va_S A s.heap H locs → lv_has ls 7 [(0, .ref h0), (1, .long v1), (3, .long v3), (5, .int v5), (6, .int v6)] → W p l e ({ frames := 1, cells := 0, slots := 0, locals := 24 } : Room) s m args below meth c H locs 0 0 (MQ below (va_Ql (fun (r : Int64) (u : mS) => post r u.1 u.2.1 u.2.2.1 u.2.2.2.1 u.2.2.2.2) (fxC (mW D h0 ad cI cL)) A) args s 0 0 A) (F0 m 17 ls []) := by
  obtain ⟨hx, hb, hr, hml, hown, hts, hlocks, hK, hN, hD⟩ := id C0
  intro n
  induction n with
  | zero => exact fun _ _ _ _ _ _ _ _ _ h => h.elim
  | succ n hK17 =>
    intro I J cn cm so v1 v3 v5 v6 h H locs ls hP hS hl
    replace h : (vp_in v5 40 ∧ (((I 4 (Int32.toNatClampNeg v5)) ≤ v6 → (K5 I J cn cm so v1 v3 (v5 + 1))) ∧ (¬ (I 4 (Int32.toNatClampNeg v5)) ≤ v6 → (wMin (fun r4 I_4 J_4 cn_4 cm_4 so_4 => ((r4 = 0 → (K5 I_4 J_4 cn_4 cm_4 so_4 v1 v3 (v5 + 1))) ∧ (¬ r4 = 0 → (vp_in ((4 * v5) + v6) 160 ∧ (wMfind (fun r7 I_7 J_7 cn_7 cm_7 so_7 => ((wMlinkSet_17 post K5 n) I_7 J_7 cn_7 cm_7 so_7 v1 (v3 ||| (hj_shl 1 r7)) v5 (v6 + 1))) I_4 J_4 cn_4 cm_4 so_4 (J_4 1 (Int32.toNatClampNeg ((4 * v5) + v6)))))))) I J cn cm so v1 v5)))) := h
    refine lv_iload hx hb dXM_linkSet_17 (lv_at hl 4 rfl) ?_
    refine lv_aload_n hx hb dXM_linkSet_19 rfl (lv_at hl 0 rfl) ?_
    refine mg_links hx hb hown hts hK hP dXM_linkSet_20 ?_
    refine lv_iload hx hb dXM_linkSet_23 (lv_at hl 3 rfl) ?_
    obtain ⟨h2, h⟩ := h
    refine ma_5 hx hb hK hP h2 dXM_linkSet_25 ?_
    refine lv_icmp_ge (tgt := 65) hx hb dXM_linkSet_26 (by decide) (fun c3 => ?_) (fun c3 => ?_)
    · replace h := h.1 c3
      refine lv_iinc (v := v5 + 1) (lv' := [(5, .int (v5 + 1)), (0, .ref h0), (1, .long v1), (3, .long v3), (6, .int v6)]) hx hb dXM_linkSet_65 hl (k := 3) rfl rfl (by decide) rfl (fun ls hl => ?_)
      refine lv_goto (tgt := 5) hx hb dXM_linkSet_68 (by decide) ?_
      exact hK5 I J cn cm so v1 v3 (v5 + 1) h H locs ls hP hS (lv_sub hl [1, 2, 3, 0] rfl)
    · replace h := h.2 c3
      refine lv_lload_n hx hb dXM_linkSet_29 rfl (lv_at hl 1 rfl) ?_
      refine lv_iload hx hb dXM_linkSet_30 (lv_at hl 3 rfl) ?_
      refine va_calli (va_runS (As := [.long v1, .int v5]) (rest := []) ⟨hx, hb, hml, hown, hts⟩ (cMin hD h) (fx_cwS 2 hts gw_M_88 hdXM_in ⟨Nat.le_of_ble_eq_true rfl, Nat.le_of_ble_eq_true rfl⟩) (fx_preS hP hK hN) rfl rfl hl.1 rfl (lv_room (Nat.le_of_ble_eq_true rfl)) dXM_linkSet_32 ⟨Nat.le_of_ble_eq_true rfl, Nat.le_of_ble_eq_true rfl⟩) hS (fun _ _ q => q) (fun _ q => q) (fun r4 u t H locs ht hvm h hP hz hk hS => ?_)
      rw [fxC, ht] at hP
      obtain ⟨I_4, J_4, cn_4, cm_4, so_4⟩ := u
      dsimp only at h
      refine lv_if_eq (tgt := 65) hx hb dXM_linkSet_35 (by decide) (fun c5 => ?_) (fun c5 => ?_)
      · replace h := h.1 c5
        refine lv_iinc (v := v5 + 1) (lv' := [(5, .int (v5 + 1)), (0, .ref h0), (1, .long v1), (3, .long v3), (6, .int v6)]) hx hb dXM_linkSet_65 hl (k := 3) rfl rfl (by decide) rfl (fun ls hl => ?_)
        refine lv_goto (tgt := 5) hx hb dXM_linkSet_68 (by decide) ?_
        exact hK5 I_4 J_4 cn_4 cm_4 so_4 v1 v3 (v5 + 1) h H locs ls hP hS (lv_sub hl [1, 2, 3, 0] rfl)
      · replace h := h.2 c5
        refine lv_lload_n hx hb dXM_linkSet_38 rfl (lv_at hl 2 rfl) ?_
        refine lv_lconst (v := 1) hx hb dXM_linkSet_39 (by decide) ?_
        refine lv_aload_n hx hb dXM_linkSet_40 rfl (lv_at hl 0 rfl) ?_
        refine lv_aload_n hx hb dXM_linkSet_41 rfl (lv_at hl 0 rfl) ?_
        refine mg_link hx hb hown hts hK hP dXM_linkSet_42 ?_
        refine lv_iconst (v := 4) hx hb dXM_linkSet_45 (by decide) ?_
        refine lv_iload hx hb dXM_linkSet_46 (lv_at hl 3 rfl) ?_
        refine lv_imul hx hb dXM_linkSet_48 ?_
        refine lv_iload hx hb dXM_linkSet_49 (lv_at hl 4 rfl) ?_
        refine lv_iadd hx hb dXM_linkSet_51 ?_
        obtain ⟨h6, h⟩ := h
        refine ma_6 hx hb hK hP h6 dXM_linkSet_52 ?_
        refine va_calli (va_runV (As := [.long (J_4 1 (Int32.toNatClampNeg ((4 * v5) + v6)))]) (rest := [.long 1, .long v3]) ⟨hx, hb, hml, hown, hts⟩ (cMfind hD h) (fx_cwV 1 hts gw_M_84 hdXM_find ⟨Nat.le_of_ble_eq_true rfl, Nat.le_of_ble_eq_true rfl⟩) (fx_preV (m_recv hK hP) hP hK hN) rfl rfl hl.1 rfl (lv_room (Nat.le_of_ble_eq_true rfl)) dXM_linkSet_53 ⟨Nat.le_of_ble_eq_true rfl, Nat.le_of_ble_eq_true rfl⟩) hS (fun _ _ q => q) (fun _ q => q) (fun r7 u t H locs ht hvm h hP hz hk hS => ?_)
        rw [fxC, ht] at hP
        obtain ⟨I_7, J_7, cn_7, cm_7, so_7⟩ := u
        dsimp only at h
        refine lv_lshl (v := hj_shl 1 r7) hx hb dXM_linkSet_56 rfl ?_
        refine lv_lor hx hb dXM_linkSet_57 ?_
        refine lv_lstore_n (lv' := [(3, .long (v3 ||| (hj_shl 1 r7))), (0, .ref h0), (1, .long v1), (5, .int v5), (6, .int v6)]) hx hb dXM_linkSet_58 rfl hl (by decide) rfl (fun ls hl => ?_)
        refine lv_iinc (v := v6 + 1) (lv' := [(6, .int (v6 + 1)), (3, .long (v3 ||| (hj_shl 1 r7))), (0, .ref h0), (1, .long v1), (5, .int v5)]) hx hb dXM_linkSet_59 hl (k := 4) rfl rfl (by decide) rfl (fun ls hl => ?_)
        refine lv_goto (tgt := 17) hx hb dXM_linkSet_62 (by decide) ?_
        exact hK17 I_7 J_7 cn_7 cm_7 so_7 v1 (v3 ||| (hj_shl 1 r7)) v5 (v6 + 1) h H locs ls hP hS (lv_sub hl [2, 3, 1, 4, 0] rfl)
set_option maxRecDepth 100000 in
set_option maxHeartbeats 4000000 in
theorem sMlinkSet_5 {p : Program} {l : Launch} {e : Env} {s : State} {m : MethodId} {args : Array Value} {below : List Frame} {meth : Method} {c : Code} {D : va_G} {A : Nat → Prop} {h0 : Nat} {ad : Nat → Nat} {cI cL : ClassId} {post : Int64 → (Nat → Nat → Int32) → (Nat → Nat → Int64) → Int32 → Int64 → Int32 → Prop} (C0 : mCx p s m args meth c D A h0 ad cI cL cXM_linkSet 7 (some .long)) : ∀ (n : Nat) (I : Nat → Nat → Int32) (J : Nat → Nat → Int64) (cn : Int32) (cm : Int64) (so : Int32) (v1 : Int64) (v3 : Int64) (v5 : Int32), wMlinkSet_5 post  n I J cn cm so v1 v3 v5 → ∀ (H : Heap) (locs : List Loc) (ls : Array Slot), mW D h0 ad cI cL (I, J, cn, cm, so) H → va_S A s.heap H locs → lv_has ls 7 [(0, .ref h0), (1, .long v1), (3, .long v3), (5, .int v5)] → W p l e ({ frames := 1, cells := 0, slots := 0, locals := 24 } : Room) s m args below meth c H locs 0 0 (MQ below (va_Ql (fun (r : Int64) (u : mS) => post r u.1 u.2.1 u.2.2.1 u.2.2.2.1 u.2.2.2.2) (fxC (mW D h0 ad cI cL)) A) args s 0 0 A) (F0 m 5 ls []) := by
  obtain ⟨hx, hb, hr, hml, hown, hts, hlocks, hK, hN, hD⟩ := id C0
  intro n
  induction n with
  | zero => exact fun _ _ _ _ _ _ _ _ h => h.elim
  | succ n hK5 =>
    intro I J cn cm so v1 v3 v5 h H locs ls hP hS hl
    replace h : ((cn ≤ v5 → (post v3 I J cn cm so)) ∧ (¬ cn ≤ v5 → (∃ k, wMlinkSet_17 post (wMlinkSet_5 post  n) k I J cn cm so v1 v3 v5 0))) := h
    refine lv_iload hx hb dXM_linkSet_5 (lv_at hl 3 rfl) ?_
    refine lv_aload_n hx hb dXM_linkSet_7 rfl (lv_at hl 0 rfl) ?_
    refine mg_count hx hb hown hts hK hP dXM_linkSet_8 ?_
    refine lv_icmp_ge (tgt := 71) hx hb dXM_linkSet_11 (by decide) (fun c1 => ?_) (fun c1 => ?_)
    · replace h := h.1 c1
      refine lv_lload_n hx hb dXM_linkSet_71 rfl (lv_at hl 2 rfl) ?_
      exact W.lret hx hb hr (fun t ht hW => ⟨⟨_, (I, J, cn, cm, so), rfl, h, by rw [fxC, ht]; exact hP⟩, hS.F ht⟩) hS.2.2 dXM_linkSet_72 hlocks
    · replace h := h.2 c1
      refine lv_iconst (v := 0) hx hb dXM_linkSet_14 (by decide) ?_
      refine lv_istore (lv' := [(6, .int 0), (0, .ref h0), (1, .long v1), (3, .long v3), (5, .int v5)]) hx hb dXM_linkSet_15 hl (by decide) rfl (fun ls hl => ?_)
      obtain ⟨k, h⟩ := h
      exact sMlinkSet_17  C0 hK5 k I J cn cm so v1 v3 v5 0 h H locs ls hP hS (lv_sub hl [1, 2, 3, 4, 0] rfl)
set_option maxRecDepth 100000 in
set_option maxHeartbeats 4000000 in
theorem sMlinkSet_in {p : Program} {l : Launch} {e : Env} {s : State} {m : MethodId} {args : Array Value} {below : List Frame} {meth : Method} {c : Code} {D : va_G} {A : Nat → Prop} {h0 : Nat} {ad : Nat → Nat} {cI cL : ClassId} {post : Int64 → (Nat → Nat → Int32) → (Nat → Nat → Int64) → Int32 → Int64 → Int32 → Prop} (C0 : mCx p s m args meth c D A h0 ad cI cL cXM_linkSet 7 (some .long)) : ∀ (I : Nat → Nat → Int32) (J : Nat → Nat → Int64) (cn : Int32) (cm : Int64) (so : Int32) (a1 : Int64), wMlinkSet post I J cn cm so a1 → ∀ (H : Heap) (locs : List Loc) (ls : Array Slot), mW D h0 ad cI cL (I, J, cn, cm, so) H → va_S A s.heap H locs → lv_has ls 7 [(0, .ref h0), (1, .long a1)] → W p l e ({ frames := 1, cells := 0, slots := 0, locals := 24 } : Room) s m args below meth c H locs 0 0 (MQ below (va_Ql (fun (r : Int64) (u : mS) => post r u.1 u.2.1 u.2.2.1 u.2.2.2.1 u.2.2.2.2) (fxC (mW D h0 ad cI cL)) A) args s 0 0 A) (F0 m 0 ls []) := by
  obtain ⟨hx, hb, hr, hml, hown, hts, hlocks, hK, hN, hD⟩ := id C0
  intro I J cn cm so a1 h H locs ls hP hS hl
  replace h : (∃ k, wMlinkSet_5 post  k I J cn cm so a1 0 0) := h
  refine lv_lconst (v := 0) hx hb dXM_linkSet_0 (by decide) ?_
  refine lv_lstore_n (lv' := [(3, .long 0), (0, .ref h0), (1, .long a1)]) hx hb dXM_linkSet_1 rfl hl (by decide) rfl (fun ls hl => ?_)
  refine lv_iconst (v := 0) hx hb dXM_linkSet_2 (by decide) ?_
  refine lv_istore (lv' := [(5, .int 0), (3, .long 0), (0, .ref h0), (1, .long a1)]) hx hb dXM_linkSet_3 hl (by decide) rfl (fun ls hl => ?_)
  obtain ⟨k, h⟩ := h
  exact sMlinkSet_5  C0  k I J cn cm so a1 0 0 h H locs ls hP hS (lv_sub hl [2, 3, 1, 0] rfl)
set_option maxRecDepth 100000 in
set_option maxHeartbeats 4000000 in
theorem cMlinkSet {l : Launch} {D : va_G} {A : Nat → Prop} {h0 : Nat} {ad : Nat → Nat} {cI cL : ClassId} (hD : mDs A h0 ad cI cL) {post : Int64 → (Nat → Nat → Int32) → (Nat → Nat → Int64) → Int32 → Int64 → Int32 → Prop} {I : Nat → Nat → Int32} {J : Nat → Nat → Int64} {cn : Int32} {cm : Int64} {so : Int32} {a1 : Int64} (h : wMlinkSet post I J cn cm so a1) : Met l yXM_linkSet (.code yXM_linkSet cXM_linkSet 7 (some .long) :: lg_tbl) ({ frames := 1, cells := 0, slots := 0, locals := 24 } : Room) (va_Pc [.ref h0, .long a1] (fxB (mW D h0 ad cI cL (I, J, cn, cm, so)) D vwCl (mTy cI cL))) (va_Ql (fun (r : Int64) (u : mS) => post r u.1 u.2.1 u.2.2.1 u.2.2.2.1 u.2.2.2.2) (fxC (mW D h0 ad cI cL)) A) 0 0 A := by
  refine fx_start (by decide +kernel) (Nat.le_of_ble_eq_true rfl) ?_
  intro p e s m below meth c ls hx hb hr hml hown hts hlocks hnm hB hl
  exact sMlinkSet_in ⟨hx, hb, hr, hml, hown, hts, hlocks, hB.2.1, hB.2.2, hD⟩ I J cn cm so a1 h _ _ ls hB.1 va_S.rf hl
noncomputable def wMbring_9 (post : (Nat → Nat → Int32) → (Nat → Nat → Int64) → Int32 → Int64 → Int32 → Prop) (n : Nat) : (Nat → Nat → Int32) → (Nat → Nat → Int64) → Int32 → Int64 → Int32 → Int32 → Int64 → Int32 → Prop := Nat.rec (motive := fun _ => (Nat → Nat → Int32) → (Nat → Nat → Int64) → Int32 → Int64 → Int32 → Int32 → Int64 → Int32 → Prop) (fun _ _ _ _ _ _ _ _ => False) (fun _ K9 I J cn cm so v1 v2 v4 => ((so ≤ v4 → (post I J cn cm so)) ∧ (¬ so ≤ v4 → (vp_in v4 40 ∧ (wMbecome (fun I_4 J_4 cn_4 cm_4 so_4 => (wMcome (fun r5 I_5 J_5 cn_5 cm_5 so_5 => (wMsort (fun I_6 J_6 cn_6 cm_6 so_6 => (K9 I_6 J_6 cn_6 cm_6 so_6 v1 v2 (v4 + 1))) I_5 J_5 cn_5 cm_5 so_5 v2 1)) I_4 J_4 cn_4 cm_4 so_4 v1)) I J cn cm so (I 10 (Int32.toNatClampNeg v4))))))) n
def wMbring (post : (Nat → Nat → Int32) → (Nat → Nat → Int64) → Int32 → Int64 → Int32 → Prop) (I : Nat → Nat → Int32) (J : Nat → Nat → Int64) (cn : Int32) (cm : Int64) (so : Int32) (a1 : Int32) (a2 : Int64) : Prop := (wMsort (fun I_1 J_1 cn_1 cm_1 so_1 => (∃ k, wMbring_9 post  k I_1 J_1 cn_1 cm_1 so_1 a1 a2 0)) I J cn cm so a2 1)
set_option maxRecDepth 100000 in
set_option maxHeartbeats 4000000 in
theorem sMbring_9 {p : Program} {l : Launch} {e : Env} {s : State} {m : MethodId} {args : Array Value} {below : List Frame} {meth : Method} {c : Code} {D : va_G} {A : Nat → Prop} {h0 : Nat} {ad : Nat → Nat} {cI cL : ClassId} {post : (Nat → Nat → Int32) → (Nat → Nat → Int64) → Int32 → Int64 → Int32 → Prop} (C0 : mCx p s m args meth c D A h0 ad cI cL cXM_bring 5 none) : ∀ (n : Nat) (I : Nat → Nat → Int32) (J : Nat → Nat → Int64) (cn : Int32) (cm : Int64) (so : Int32) (v1 : Int32) (v2 : Int64) (v4 : Int32), wMbring_9 post  n I J cn cm so v1 v2 v4 → ∀ (H : Heap) (locs : List Loc) (ls : Array Slot), mW D h0 ad cI cL (I, J, cn, cm, so) H → va_S A s.heap H locs → lv_has ls 5 [(0, .ref h0), (1, .int v1), (2, .long v2), (4, .int v4)] → W p l e ({ frames := 5, cells := 0, slots := 0, locals := 121 } : Room) s m args below meth c H locs 0 0 (MQ below (va_Qv (fun (u : mS) => post u.1 u.2.1 u.2.2.1 u.2.2.2.1 u.2.2.2.2) (fxC (mW D h0 ad cI cL)) A) args s 0 0 A) (F0 m 9 ls []) := by
  obtain ⟨hx, hb, hr, hml, hown, hts, hlocks, hK, hN, hD⟩ := id C0
  intro n
  induction n with
  | zero => exact fun _ _ _ _ _ _ _ _ h => h.elim
  | succ n hK9 =>
    intro I J cn cm so v1 v2 v4 h H locs ls hP hS hl
    replace h : ((so ≤ v4 → (post I J cn cm so)) ∧ (¬ so ≤ v4 → (vp_in v4 40 ∧ (wMbecome (fun I_4 J_4 cn_4 cm_4 so_4 => (wMcome (fun r5 I_5 J_5 cn_5 cm_5 so_5 => (wMsort (fun I_6 J_6 cn_6 cm_6 so_6 => ((wMbring_9 post  n) I_6 J_6 cn_6 cm_6 so_6 v1 v2 (v4 + 1))) I_5 J_5 cn_5 cm_5 so_5 v2 1)) I_4 J_4 cn_4 cm_4 so_4 v1)) I J cn cm so (I 10 (Int32.toNatClampNeg v4)))))) := h
    refine lv_iload hx hb dXM_bring_9 (lv_at hl 3 rfl) ?_
    refine lv_aload_n hx hb dXM_bring_11 rfl (lv_at hl 0 rfl) ?_
    refine mg_sorted hx hb hown hts hK hP dXM_bring_12 ?_
    refine lv_icmp_ge (tgt := 47) hx hb dXM_bring_15 (by decide) (fun c2 => ?_) (fun c2 => ?_)
    · replace h := h.1 c2
      exact W.vret hx hb hr (fun t ht hW => ⟨⟨(I, J, cn, cm, so), rfl, h, by rw [fxC, ht]; exact hP⟩, hS.F ht⟩) hS.2.2 dXM_bring_47 hlocks
    · replace h := h.2 c2
      refine lv_aload_n hx hb dXM_bring_18 rfl (lv_at hl 0 rfl) ?_
      refine lv_aload_n hx hb dXM_bring_19 rfl (lv_at hl 0 rfl) ?_
      refine mg_order hx hb hown hts hK hP dXM_bring_20 ?_
      refine lv_iload hx hb dXM_bring_23 (lv_at hl 3 rfl) ?_
      obtain ⟨h3, h⟩ := h
      refine ma_18 hx hb hK hP h3 dXM_bring_25 ?_
      refine va_callv (va_runV (As := [.int (I 10 (Int32.toNatClampNeg v4))]) (rest := []) ⟨hx, hb, hml, hown, hts⟩ (cMbecome hD h) (fx_cwV 1 hts gw_M_104 hdXM_become ⟨Nat.le_of_ble_eq_true rfl, Nat.le_of_ble_eq_true rfl⟩) (fx_preV (m_recv hK hP) hP hK hN) rfl rfl hl.1 rfl (lv_room (Nat.le_of_ble_eq_true rfl)) dXM_bring_26 ⟨Nat.le_of_ble_eq_true rfl, Nat.le_of_ble_eq_true rfl⟩) hS (fun _ _ q => q) (fun _ q => q) (fun u t H locs ht hvm h hP hz hk hS => ?_)
      rw [fxC, ht] at hP
      obtain ⟨I_4, J_4, cn_4, cm_4, so_4⟩ := u
      dsimp only at h
      refine lv_aload_n hx hb dXM_bring_29 rfl (lv_at hl 0 rfl) ?_
      refine lv_iload_n hx hb dXM_bring_30 rfl (lv_at hl 1 rfl) ?_
      refine va_calli (va_runV (As := [.int v1]) (rest := []) ⟨hx, hb, hml, hown, hts⟩ (cMcome hD h) (fx_cwV 1 hts gw_M_145 hdXM_come ⟨Nat.le_of_ble_eq_true rfl, Nat.le_of_ble_eq_true rfl⟩) (fx_preV (m_recv hK hP) hP hK hN) rfl rfl hl.1 rfl (lv_room (Nat.le_of_ble_eq_true rfl)) dXM_bring_31 ⟨Nat.le_of_ble_eq_true rfl, Nat.le_of_ble_eq_true rfl⟩) hS (fun _ _ q => q) (fun _ q => q) (fun r5 u t H locs ht hvm h hP hz hk hS => ?_)
      rw [fxC, ht] at hP
      obtain ⟨I_5, J_5, cn_5, cm_5, so_5⟩ := u
      dsimp only at h
      refine lv_pop hx hb dXM_bring_34 rfl ?_
      refine lv_aload_n hx hb dXM_bring_35 rfl (lv_at hl 0 rfl) ?_
      refine lv_lload_n hx hb dXM_bring_36 rfl (lv_at hl 2 rfl) ?_
      refine lv_iconst (v := 1) hx hb dXM_bring_37 (by decide) ?_
      refine va_callv (va_runV (As := [.long v2, .int 1]) (rest := []) ⟨hx, hb, hml, hown, hts⟩ (cMsort hD h) (fx_cwV 2 hts gw_M_153 hdXM_sort ⟨Nat.le_of_ble_eq_true rfl, Nat.le_of_ble_eq_true rfl⟩) (fx_preV (m_recv hK hP) hP hK hN) rfl rfl hl.1 rfl (lv_room (Nat.le_of_ble_eq_true rfl)) dXM_bring_38 ⟨Nat.le_of_ble_eq_true rfl, Nat.le_of_ble_eq_true rfl⟩) hS (fun _ _ q => q) (fun _ q => q) (fun u t H locs ht hvm h hP hz hk hS => ?_)
      rw [fxC, ht] at hP
      obtain ⟨I_6, J_6, cn_6, cm_6, so_6⟩ := u
      dsimp only at h
      refine lv_iinc (v := v4 + 1) (lv' := [(4, .int (v4 + 1)), (0, .ref h0), (1, .int v1), (2, .long v2)]) hx hb dXM_bring_41 hl (k := 3) rfl rfl (by decide) rfl (fun ls hl => ?_)
      refine lv_goto (tgt := 9) hx hb dXM_bring_44 (by decide) ?_
      exact hK9 I_6 J_6 cn_6 cm_6 so_6 v1 v2 (v4 + 1) h H locs ls hP hS (lv_sub hl [1, 2, 3, 0] rfl)
set_option maxRecDepth 100000 in
set_option maxHeartbeats 4000000 in
theorem sMbring_in {p : Program} {l : Launch} {e : Env} {s : State} {m : MethodId} {args : Array Value} {below : List Frame} {meth : Method} {c : Code} {D : va_G} {A : Nat → Prop} {h0 : Nat} {ad : Nat → Nat} {cI cL : ClassId} {post : (Nat → Nat → Int32) → (Nat → Nat → Int64) → Int32 → Int64 → Int32 → Prop} (C0 : mCx p s m args meth c D A h0 ad cI cL cXM_bring 5 none) : ∀ (I : Nat → Nat → Int32) (J : Nat → Nat → Int64) (cn : Int32) (cm : Int64) (so : Int32) (a1 : Int32) (a2 : Int64), wMbring post I J cn cm so a1 a2 → ∀ (H : Heap) (locs : List Loc) (ls : Array Slot), mW D h0 ad cI cL (I, J, cn, cm, so) H → va_S A s.heap H locs → lv_has ls 5 [(0, .ref h0), (1, .int a1), (2, .long a2)] → W p l e ({ frames := 5, cells := 0, slots := 0, locals := 121 } : Room) s m args below meth c H locs 0 0 (MQ below (va_Qv (fun (u : mS) => post u.1 u.2.1 u.2.2.1 u.2.2.2.1 u.2.2.2.2) (fxC (mW D h0 ad cI cL)) A) args s 0 0 A) (F0 m 0 ls []) := by
  obtain ⟨hx, hb, hr, hml, hown, hts, hlocks, hK, hN, hD⟩ := id C0
  intro I J cn cm so a1 a2 h H locs ls hP hS hl
  replace h : (wMsort (fun I_1 J_1 cn_1 cm_1 so_1 => (∃ k, wMbring_9 post  k I_1 J_1 cn_1 cm_1 so_1 a1 a2 0)) I J cn cm so a2 1) := h
  refine lv_aload_n hx hb dXM_bring_0 rfl (lv_at hl 0 rfl) ?_
  refine lv_lload_n hx hb dXM_bring_1 rfl (lv_at hl 2 rfl) ?_
  refine lv_iconst (v := 1) hx hb dXM_bring_2 (by decide) ?_
  refine va_callv (va_runV (As := [.long a2, .int 1]) (rest := []) ⟨hx, hb, hml, hown, hts⟩ (cMsort hD h) (fx_cwV 2 hts gw_M_153 hdXM_sort ⟨Nat.le_of_ble_eq_true rfl, Nat.le_of_ble_eq_true rfl⟩) (fx_preV (m_recv hK hP) hP hK hN) rfl rfl hl.1 rfl (lv_room (Nat.le_of_ble_eq_true rfl)) dXM_bring_3 ⟨Nat.le_of_ble_eq_true rfl, Nat.le_of_ble_eq_true rfl⟩) hS (fun _ _ q => q) (fun _ q => q) (fun u t H locs ht hvm h hP hz hk hS => ?_)
  rw [fxC, ht] at hP
  obtain ⟨I_1, J_1, cn_1, cm_1, so_1⟩ := u
  dsimp only at h
  refine lv_iconst (v := 0) hx hb dXM_bring_6 (by decide) ?_
  refine lv_istore (lv' := [(4, .int 0), (0, .ref h0), (1, .int a1), (2, .long a2)]) hx hb dXM_bring_7 hl (by decide) rfl (fun ls hl => ?_)
  obtain ⟨k, h⟩ := h
  exact sMbring_9  C0  k I_1 J_1 cn_1 cm_1 so_1 a1 a2 0 h H locs ls hP hS (lv_sub hl [1, 2, 3, 0] rfl)
set_option maxRecDepth 100000 in
set_option maxHeartbeats 4000000 in
theorem cMbring {l : Launch} {D : va_G} {A : Nat → Prop} {h0 : Nat} {ad : Nat → Nat} {cI cL : ClassId} (hD : mDs A h0 ad cI cL) {post : (Nat → Nat → Int32) → (Nat → Nat → Int64) → Int32 → Int64 → Int32 → Prop} {I : Nat → Nat → Int32} {J : Nat → Nat → Int64} {cn : Int32} {cm : Int64} {so : Int32} {a1 : Int32} {a2 : Int64} (h : wMbring post I J cn cm so a1 a2) : Met l yXM_bring (.code yXM_bring cXM_bring 5 none :: lg_tbl) ({ frames := 5, cells := 0, slots := 0, locals := 121 } : Room) (va_Pc [.ref h0, .int a1, .long a2] (fxB (mW D h0 ad cI cL (I, J, cn, cm, so)) D vwCl (mTy cI cL))) (va_Qv (fun (u : mS) => post u.1 u.2.1 u.2.2.1 u.2.2.2.1 u.2.2.2.2) (fxC (mW D h0 ad cI cL)) A) 0 0 A := by
  refine fx_start (by decide +kernel) (Nat.le_of_ble_eq_true rfl) ?_
  intro p e s m below meth c ls hx hb hr hml hown hts hlocks hnm hB hl
  exact sMbring_in ⟨hx, hb, hr, hml, hown, hts, hlocks, hB.2.1, hB.2.2, hD⟩ I J cn cm so a1 a2 h _ _ ls hB.1 va_S.rf hl
end
section
def wMmeet_129 (post : Int32 → (Nat → Nat → Int32) → (Nat → Nat → Int64) → Int32 → Int64 → Int32 → Prop) (K46 : (Nat → Nat → Int32) → (Nat → Nat → Int64) → Int32 → Int64 → Int32 → Int32 → Int32 → Int64 → Int64 → Int64 → Int64 → Int32 → Int32 → Prop) (I : Nat → Nat → Int32) (J : Nat → Nat → Int64) (cn : Int32) (cm : Int64) (so : Int32) (v1 : Int32) (v2 : Int32) (v3 : Int64) (v5 : Int64) (v7 : Int64) (v9 : Int64) (v12 : Int32) (v13 : Int64) (v15 : Int64) (t0 : Int32) : Prop := (wMlinkSet (fun r18 I_18 J_18 cn_18 cm_18 so_18 => (wMlinkSet (fun r19 I_19 J_19 cn_19 cm_19 so_19 => (K46 I_19 J_19 cn_19 cm_19 so_19 v1 v2 (v3 ||| r18) (v5 ||| r19) (v7 ||| v13) (v9 ||| v15) t0 v12)) I_18 J_18 cn_18 cm_18 so_18 v15)) I J cn cm so v13)
def wMmeet_113 (post : Int32 → (Nat → Nat → Int32) → (Nat → Nat → Int64) → Int32 → Int64 → Int32 → Prop) (K46 : (Nat → Nat → Int32) → (Nat → Nat → Int64) → Int32 → Int64 → Int32 → Int32 → Int32 → Int64 → Int64 → Int64 → Int64 → Int32 → Int32 → Prop) (I : Nat → Nat → Int32) (J : Nat → Nat → Int64) (cn : Int32) (cm : Int64) (so : Int32) (v1 : Int32) (v2 : Int32) (v3 : Int64) (v5 : Int64) (v7 : Int64) (v9 : Int64) (v11 : Int32) (v13 : Int64) (v15 : Int64) (t0 : Int32) : Prop := ((t0 = 0 → (wMmeet_129 post K46 I J cn cm so v1 v2 v3 v5 v7 v9 t0 v13 v15 v11)) ∧ (¬ t0 = 0 → (wMmeet_129 post K46 I J cn cm so v1 v2 v3 v5 v7 v9 t0 v13 v15 (v11 + 1))))
def wMmeet_108 (post : Int32 → (Nat → Nat → Int32) → (Nat → Nat → Int64) → Int32 → Int64 → Int32 → Prop) (K46 : (Nat → Nat → Int32) → (Nat → Nat → Int64) → Int32 → Int64 → Int32 → Int32 → Int32 → Int64 → Int64 → Int64 → Int64 → Int32 → Int32 → Prop) (I : Nat → Nat → Int32) (J : Nat → Nat → Int64) (cn : Int32) (cm : Int64) (so : Int32) (v1 : Int32) (v2 : Int32) (v3 : Int64) (v5 : Int64) (v7 : Int64) (v9 : Int64) (v11 : Int32) (v13 : Int64) (v15 : Int64) : Prop := (wMmeet_113 post K46 I J cn cm so v1 v2 v3 v5 v7 v9 v11 v13 v15 1)
noncomputable def wMmeet_46 (post : Int32 → (Nat → Nat → Int32) → (Nat → Nat → Int64) → Int32 → Int64 → Int32 → Prop) (n : Nat) : (Nat → Nat → Int32) → (Nat → Nat → Int64) → Int32 → Int64 → Int32 → Int32 → Int32 → Int64 → Int64 → Int64 → Int64 → Int32 → Int32 → Prop := Nat.rec (motive := fun _ => (Nat → Nat → Int32) → (Nat → Nat → Int64) → Int32 → Int64 → Int32 → Int32 → Int32 → Int64 → Int64 → Int64 → Int64 → Int32 → Int32 → Prop) (fun _ _ _ _ _ _ _ _ _ _ _ _ _ => False) (fun _ K46 I J cn cm so v1 v2 v3 v5 v7 v9 v11 v12 => ((v12 = 0 → (wMbring (fun I_9 J_9 cn_9 cm_9 so_9 => (wMbring (fun I_10 J_10 cn_10 cm_10 so_10 => (post v11 I_10 J_10 cn_10 cm_10 so_10)) I_9 J_9 cn_9 cm_9 so_9 v2 v9)) I J cn cm so v1 v7)) ∧ (¬ v12 = 0 → (vp_in v1 4 ∧ ∀ x12, x12 = (v3 &&& ((J 3 (Int32.toNatClampNeg v1)) ^^^ (-1))) &&& (v7 ^^^ (-1)) → (vp_in v2 4 ∧ ∀ x14, x14 = (v5 &&& ((J 3 (Int32.toNatClampNeg v2)) ^^^ (-1))) &&& (v9 ^^^ (-1)) → ((¬ (lg_cmp x12 0) = 0 → (wMmeet_108 post K46 I J cn cm so v1 v2 v3 v5 v7 v9 v11 x12 x14)) ∧ ((lg_cmp x12 0) = 0 → (((lg_cmp x14 0) = 0 → (wMmeet_113 post K46 I J cn cm so v1 v2 v3 v5 v7 v9 v11 x12 x14 0)) ∧ (¬ (lg_cmp x14 0) = 0 → (wMmeet_108 post K46 I J cn cm so v1 v2 v3 v5 v7 v9 v11 x12 x14)))))))))) n
def wMmeet (post : Int32 → (Nat → Nat → Int32) → (Nat → Nat → Int64) → Int32 → Int64 → Int32 → Prop) (I : Nat → Nat → Int32) (J : Nat → Nat → Int64) (cn : Int32) (cm : Int64) (so : Int32) (a1 : Int32) (a2 : Int32) : Prop := (wMisReplica (fun r1 I_1 J_1 cn_1 cm_1 so_1 => ((r1 = 0 → (post (-1) I_1 J_1 cn_1 cm_1 so_1)) ∧ (¬ r1 = 0 → (wMisReplica (fun r3 I_3 J_3 cn_3 cm_3 so_3 => ((r3 = 0 → (post (-1) I_3 J_3 cn_3 cm_3 so_3)) ∧ (¬ r3 = 0 → ((¬ a1 = a2 → (wMheadSet (fun r6 I_6 J_6 cn_6 cm_6 so_6 => (wMheadSet (fun r7 I_7 J_7 cn_7 cm_7 so_7 => (∃ k, wMmeet_46 post  k I_7 J_7 cn_7 cm_7 so_7 a1 a2 r6 r7 0 0 0 1)) I_6 J_6 cn_6 cm_6 so_6 a1)) I_3 J_3 cn_3 cm_3 so_3 a2)) ∧ (a1 = a2 → (post (-1) I_3 J_3 cn_3 cm_3 so_3)))))) I_1 J_1 cn_1 cm_1 so_1 a2)))) I J cn cm so a1)
set_option maxRecDepth 100000 in
set_option maxHeartbeats 4000000 in
theorem sMmeet_129 {p : Program} {l : Launch} {e : Env} {s : State} {m : MethodId} {args : Array Value} {below : List Frame} {meth : Method} {c : Code} {D : va_G} {A : Nat → Prop} {h0 : Nat} {ad : Nat → Nat} {cI cL : ClassId} {post : Int32 → (Nat → Nat → Int32) → (Nat → Nat → Int64) → Int32 → Int64 → Int32 → Prop} (C0 : mCx p s m args meth c D A h0 ad cI cL cXM_meet 17 (some .int)) {K46 : (Nat → Nat → Int32) → (Nat → Nat → Int64) → Int32 → Int64 → Int32 → Int32 → Int32 → Int64 → Int64 → Int64 → Int64 → Int32 → Int32 → Prop} (hK46 : ∀ (I : Nat → Nat → Int32) (J : Nat → Nat → Int64) (cn : Int32) (cm : Int64) (so : Int32) (v1 : Int32) (v2 : Int32) (v3 : Int64) (v5 : Int64) (v7 : Int64) (v9 : Int64) (v11 : Int32) (v12 : Int32), K46 I J cn cm so v1 v2 v3 v5 v7 v9 v11 v12 → ∀ (H : Heap) (locs : List Loc) (ls : Array Slot), mW D h0 ad cI cL (I, J, cn, cm, so) H → va_S A s.heap H locs → lv_has ls 17 [(0, .ref h0), (1, .int v1), (2, .int v2), (3, .long v3), (5, .long v5), (7, .long v7), (9, .long v9), (11, .int v11), (12, .int v12)] → W p l e ({ frames := 6, cells := 0, slots := 0, locals := 145 } : Room) s m args below meth c H locs 0 0 (MQ below (va_Qi (fun (r : Int32) (u : mS) => post r u.1 u.2.1 u.2.2.1 u.2.2.2.1 u.2.2.2.2) (fxC (mW D h0 ad cI cL)) A) args s 0 0 A) (F0 m 46 ls [])) : ∀ (I : Nat → Nat → Int32) (J : Nat → Nat → Int64) (cn : Int32) (cm : Int64) (so : Int32) (v1 : Int32) (v2 : Int32) (v3 : Int64) (v5 : Int64) (v7 : Int64) (v9 : Int64) (v12 : Int32) (v13 : Int64) (v15 : Int64) (t0 : Int32), wMmeet_129 post K46 I J cn cm so v1 v2 v3 v5 v7 v9 v12 v13 v15 t0 → ∀ (H : Heap) (locs : List Loc) (ls : Array Slot), mW D h0 ad cI cL (I, J, cn, cm, so) H → va_S A s.heap H locs → lv_has ls 17 [(0, .ref h0), (1, .int v1), (2, .int v2), (3, .long v3), (5, .long v5), (7, .long v7), (9, .long v9), (12, .int v12), (13, .long v13), (15, .long v15)] → W p l e ({ frames := 6, cells := 0, slots := 0, locals := 145 } : Room) s m args below meth c H locs 0 0 (MQ below (va_Qi (fun (r : Int32) (u : mS) => post r u.1 u.2.1 u.2.2.1 u.2.2.2.1 u.2.2.2.2) (fxC (mW D h0 ad cI cL)) A) args s 0 0 A) (F0 m 129 ls [.int t0]) := by
  obtain ⟨hx, hb, hr, hml, hown, hts, hlocks, hK, hN, hD⟩ := id C0
  intro I J cn cm so v1 v2 v3 v5 v7 v9 v12 v13 v15 t0 h H locs ls hP hS hl
  replace h : (wMlinkSet (fun r18 I_18 J_18 cn_18 cm_18 so_18 => (wMlinkSet (fun r19 I_19 J_19 cn_19 cm_19 so_19 => (K46 I_19 J_19 cn_19 cm_19 so_19 v1 v2 (v3 ||| r18) (v5 ||| r19) (v7 ||| v13) (v9 ||| v15) t0 v12)) I_18 J_18 cn_18 cm_18 so_18 v15)) I J cn cm so v13) := h
  refine lv_istore (lv' := [(11, .int t0), (0, .ref h0), (1, .int v1), (2, .int v2), (3, .long v3), (5, .long v5), (7, .long v7), (9, .long v9), (12, .int v12), (13, .long v13), (15, .long v15)]) hx hb dXM_meet_129 hl (by decide) rfl (fun ls hl => ?_)
  refine lv_lload hx hb dXM_meet_131 (lv_at hl 6 rfl) ?_
  refine lv_lload hx hb dXM_meet_133 (lv_at hl 9 rfl) ?_
  refine lv_lor hx hb dXM_meet_135 ?_
  refine lv_lstore (lv' := [(7, .long (v7 ||| v13)), (11, .int t0), (0, .ref h0), (1, .int v1), (2, .int v2), (3, .long v3), (5, .long v5), (9, .long v9), (12, .int v12), (13, .long v13), (15, .long v15)]) hx hb dXM_meet_136 hl (by decide) rfl (fun ls hl => ?_)
  refine lv_lload hx hb dXM_meet_138 (lv_at hl 7 rfl) ?_
  refine lv_lload hx hb dXM_meet_140 (lv_at hl 10 rfl) ?_
  refine lv_lor hx hb dXM_meet_142 ?_
  refine lv_lstore (lv' := [(9, .long (v9 ||| v15)), (7, .long (v7 ||| v13)), (11, .int t0), (0, .ref h0), (1, .int v1), (2, .int v2), (3, .long v3), (5, .long v5), (12, .int v12), (13, .long v13), (15, .long v15)]) hx hb dXM_meet_143 hl (by decide) rfl (fun ls hl => ?_)
  refine lv_lload_n hx hb dXM_meet_145 rfl (lv_at hl 6 rfl) ?_
  refine lv_aload_n hx hb dXM_meet_146 rfl (lv_at hl 3 rfl) ?_
  refine lv_lload hx hb dXM_meet_147 (lv_at hl 9 rfl) ?_
  refine va_calll (va_runV (As := [.long v13]) (rest := [.long v3]) ⟨hx, hb, hml, hown, hts⟩ (cMlinkSet hD h) (fx_cwV 1 hts gw_M_161 hdXM_linkSet ⟨Nat.le_of_ble_eq_true rfl, Nat.le_of_ble_eq_true rfl⟩) (fx_preV (m_recv hK hP) hP hK hN) rfl rfl hl.1 rfl (lv_room (Nat.le_of_ble_eq_true rfl)) dXM_meet_149 ⟨Nat.le_of_ble_eq_true rfl, Nat.le_of_ble_eq_true rfl⟩) hS (fun _ _ q => q) (fun _ q => q) (fun r18 u t H locs ht hvm h hP hz hk hS => ?_)
  rw [fxC, ht] at hP
  obtain ⟨I_18, J_18, cn_18, cm_18, so_18⟩ := u
  dsimp only at h
  refine lv_lor hx hb dXM_meet_152 ?_
  refine lv_lstore_n (lv' := [(3, .long (v3 ||| r18)), (9, .long (v9 ||| v15)), (7, .long (v7 ||| v13)), (11, .int t0), (0, .ref h0), (1, .int v1), (2, .int v2), (5, .long v5), (12, .int v12), (13, .long v13), (15, .long v15)]) hx hb dXM_meet_153 rfl hl (by decide) rfl (fun ls hl => ?_)
  refine lv_lload hx hb dXM_meet_154 (lv_at hl 7 rfl) ?_
  refine lv_aload_n hx hb dXM_meet_156 rfl (lv_at hl 4 rfl) ?_
  refine lv_lload hx hb dXM_meet_157 (lv_at hl 10 rfl) ?_
  refine va_calll (va_runV (As := [.long v15]) (rest := [.long v5]) ⟨hx, hb, hml, hown, hts⟩ (cMlinkSet hD h) (fx_cwV 1 hts gw_M_161 hdXM_linkSet ⟨Nat.le_of_ble_eq_true rfl, Nat.le_of_ble_eq_true rfl⟩) (fx_preV (m_recv hK hP) hP hK hN) rfl rfl hl.1 rfl (lv_room (Nat.le_of_ble_eq_true rfl)) dXM_meet_159 ⟨Nat.le_of_ble_eq_true rfl, Nat.le_of_ble_eq_true rfl⟩) hS (fun _ _ q => q) (fun _ q => q) (fun r19 u t H locs ht hvm h hP hz hk hS => ?_)
  rw [fxC, ht] at hP
  obtain ⟨I_19, J_19, cn_19, cm_19, so_19⟩ := u
  dsimp only at h
  refine lv_lor hx hb dXM_meet_162 ?_
  refine lv_lstore (lv' := [(5, .long (v5 ||| r19)), (3, .long (v3 ||| r18)), (9, .long (v9 ||| v15)), (7, .long (v7 ||| v13)), (11, .int t0), (0, .ref h0), (1, .int v1), (2, .int v2), (12, .int v12), (13, .long v13), (15, .long v15)]) hx hb dXM_meet_163 hl (by decide) rfl (fun ls hl => ?_)
  refine lv_goto (tgt := 46) hx hb dXM_meet_165 (by decide) ?_
  exact hK46 I_19 J_19 cn_19 cm_19 so_19 v1 v2 (v3 ||| r18) (v5 ||| r19) (v7 ||| v13) (v9 ||| v15) t0 v12 h H locs ls hP hS (lv_sub hl [5, 6, 7, 1, 0, 3, 2, 4, 8] rfl)
set_option maxRecDepth 100000 in
set_option maxHeartbeats 4000000 in
theorem sMmeet_113 {p : Program} {l : Launch} {e : Env} {s : State} {m : MethodId} {args : Array Value} {below : List Frame} {meth : Method} {c : Code} {D : va_G} {A : Nat → Prop} {h0 : Nat} {ad : Nat → Nat} {cI cL : ClassId} {post : Int32 → (Nat → Nat → Int32) → (Nat → Nat → Int64) → Int32 → Int64 → Int32 → Prop} (C0 : mCx p s m args meth c D A h0 ad cI cL cXM_meet 17 (some .int)) {K46 : (Nat → Nat → Int32) → (Nat → Nat → Int64) → Int32 → Int64 → Int32 → Int32 → Int32 → Int64 → Int64 → Int64 → Int64 → Int32 → Int32 → Prop} (hK46 : ∀ (I : Nat → Nat → Int32) (J : Nat → Nat → Int64) (cn : Int32) (cm : Int64) (so : Int32) (v1 : Int32) (v2 : Int32) (v3 : Int64) (v5 : Int64) (v7 : Int64) (v9 : Int64) (v11 : Int32) (v12 : Int32), K46 I J cn cm so v1 v2 v3 v5 v7 v9 v11 v12 → ∀ (H : Heap) (locs : List Loc) (ls : Array Slot), mW D h0 ad cI cL (I, J, cn, cm, so) H → va_S A s.heap H locs → lv_has ls 17 [(0, .ref h0), (1, .int v1), (2, .int v2), (3, .long v3), (5, .long v5), (7, .long v7), (9, .long v9), (11, .int v11), (12, .int v12)] → W p l e ({ frames := 6, cells := 0, slots := 0, locals := 145 } : Room) s m args below meth c H locs 0 0 (MQ below (va_Qi (fun (r : Int32) (u : mS) => post r u.1 u.2.1 u.2.2.1 u.2.2.2.1 u.2.2.2.2) (fxC (mW D h0 ad cI cL)) A) args s 0 0 A) (F0 m 46 ls [])) : ∀ (I : Nat → Nat → Int32) (J : Nat → Nat → Int64) (cn : Int32) (cm : Int64) (so : Int32) (v1 : Int32) (v2 : Int32) (v3 : Int64) (v5 : Int64) (v7 : Int64) (v9 : Int64) (v11 : Int32) (v13 : Int64) (v15 : Int64) (t0 : Int32), wMmeet_113 post K46 I J cn cm so v1 v2 v3 v5 v7 v9 v11 v13 v15 t0 → ∀ (H : Heap) (locs : List Loc) (ls : Array Slot), mW D h0 ad cI cL (I, J, cn, cm, so) H → va_S A s.heap H locs → lv_has ls 17 [(0, .ref h0), (1, .int v1), (2, .int v2), (3, .long v3), (5, .long v5), (7, .long v7), (9, .long v9), (11, .int v11), (13, .long v13), (15, .long v15)] → W p l e ({ frames := 6, cells := 0, slots := 0, locals := 145 } : Room) s m args below meth c H locs 0 0 (MQ below (va_Qi (fun (r : Int32) (u : mS) => post r u.1 u.2.1 u.2.2.1 u.2.2.2.1 u.2.2.2.2) (fxC (mW D h0 ad cI cL)) A) args s 0 0 A) (F0 m 113 ls [.int t0]) := by
  obtain ⟨hx, hb, hr, hml, hown, hts, hlocks, hK, hN, hD⟩ := id C0
  intro I J cn cm so v1 v2 v3 v5 v7 v9 v11 v13 v15 t0 h H locs ls hP hS hl
  replace h : ((t0 = 0 → (wMmeet_129 post K46 I J cn cm so v1 v2 v3 v5 v7 v9 t0 v13 v15 v11)) ∧ (¬ t0 = 0 → (wMmeet_129 post K46 I J cn cm so v1 v2 v3 v5 v7 v9 t0 v13 v15 (v11 + 1)))) := h
  refine lv_istore (lv' := [(12, .int t0), (0, .ref h0), (1, .int v1), (2, .int v2), (3, .long v3), (5, .long v5), (7, .long v7), (9, .long v9), (11, .int v11), (13, .long v13), (15, .long v15)]) hx hb dXM_meet_113 hl (by decide) rfl (fun ls hl => ?_)
  refine lv_iload hx hb dXM_meet_115 (lv_at hl 0 rfl) ?_
  refine lv_if_eq (tgt := 127) hx hb dXM_meet_117 (by decide) (fun c17 => ?_) (fun c17 => ?_)
  · replace h := h.1 c17
    refine lv_iload hx hb dXM_meet_127 (lv_at hl 8 rfl) ?_
    exact sMmeet_129  C0 hK46 I J cn cm so v1 v2 v3 v5 v7 v9 t0 v13 v15 v11 h H locs ls hP hS (lv_sub hl [1, 2, 3, 4, 5, 6, 7, 0, 9, 10] rfl)
  · replace h := h.2 c17
    refine lv_iload hx hb dXM_meet_120 (lv_at hl 8 rfl) ?_
    refine lv_iconst (v := 1) hx hb dXM_meet_122 (by decide) ?_
    refine lv_iadd hx hb dXM_meet_123 ?_
    refine lv_goto (tgt := 129) hx hb dXM_meet_124 (by decide) ?_
    exact sMmeet_129  C0 hK46 I J cn cm so v1 v2 v3 v5 v7 v9 t0 v13 v15 (v11 + 1) h H locs ls hP hS (lv_sub hl [1, 2, 3, 4, 5, 6, 7, 0, 9, 10] rfl)
set_option maxRecDepth 100000 in
set_option maxHeartbeats 4000000 in
theorem sMmeet_108 {p : Program} {l : Launch} {e : Env} {s : State} {m : MethodId} {args : Array Value} {below : List Frame} {meth : Method} {c : Code} {D : va_G} {A : Nat → Prop} {h0 : Nat} {ad : Nat → Nat} {cI cL : ClassId} {post : Int32 → (Nat → Nat → Int32) → (Nat → Nat → Int64) → Int32 → Int64 → Int32 → Prop} (C0 : mCx p s m args meth c D A h0 ad cI cL cXM_meet 17 (some .int)) {K46 : (Nat → Nat → Int32) → (Nat → Nat → Int64) → Int32 → Int64 → Int32 → Int32 → Int32 → Int64 → Int64 → Int64 → Int64 → Int32 → Int32 → Prop} (hK46 : ∀ (I : Nat → Nat → Int32) (J : Nat → Nat → Int64) (cn : Int32) (cm : Int64) (so : Int32) (v1 : Int32) (v2 : Int32) (v3 : Int64) (v5 : Int64) (v7 : Int64) (v9 : Int64) (v11 : Int32) (v12 : Int32), K46 I J cn cm so v1 v2 v3 v5 v7 v9 v11 v12 → ∀ (H : Heap) (locs : List Loc) (ls : Array Slot), mW D h0 ad cI cL (I, J, cn, cm, so) H → va_S A s.heap H locs → lv_has ls 17 [(0, .ref h0), (1, .int v1), (2, .int v2), (3, .long v3), (5, .long v5), (7, .long v7), (9, .long v9), (11, .int v11), (12, .int v12)] → W p l e ({ frames := 6, cells := 0, slots := 0, locals := 145 } : Room) s m args below meth c H locs 0 0 (MQ below (va_Qi (fun (r : Int32) (u : mS) => post r u.1 u.2.1 u.2.2.1 u.2.2.2.1 u.2.2.2.2) (fxC (mW D h0 ad cI cL)) A) args s 0 0 A) (F0 m 46 ls [])) : ∀ (I : Nat → Nat → Int32) (J : Nat → Nat → Int64) (cn : Int32) (cm : Int64) (so : Int32) (v1 : Int32) (v2 : Int32) (v3 : Int64) (v5 : Int64) (v7 : Int64) (v9 : Int64) (v11 : Int32) (v13 : Int64) (v15 : Int64), wMmeet_108 post K46 I J cn cm so v1 v2 v3 v5 v7 v9 v11 v13 v15 → ∀ (H : Heap) (locs : List Loc) (ls : Array Slot), mW D h0 ad cI cL (I, J, cn, cm, so) H → va_S A s.heap H locs → lv_has ls 17 [(0, .ref h0), (1, .int v1), (2, .int v2), (3, .long v3), (5, .long v5), (7, .long v7), (9, .long v9), (11, .int v11), (13, .long v13), (15, .long v15)] → W p l e ({ frames := 6, cells := 0, slots := 0, locals := 145 } : Room) s m args below meth c H locs 0 0 (MQ below (va_Qi (fun (r : Int32) (u : mS) => post r u.1 u.2.1 u.2.2.1 u.2.2.2.1 u.2.2.2.2) (fxC (mW D h0 ad cI cL)) A) args s 0 0 A) (F0 m 108 ls []) := by
  obtain ⟨hx, hb, hr, hml, hown, hts, hlocks, hK, hN, hD⟩ := id C0
  intro I J cn cm so v1 v2 v3 v5 v7 v9 v11 v13 v15 h H locs ls hP hS hl
  replace h : (wMmeet_113 post K46 I J cn cm so v1 v2 v3 v5 v7 v9 v11 v13 v15 1) := h
  refine lv_iconst (v := 1) hx hb dXM_meet_108 (by decide) ?_
  refine lv_goto (tgt := 113) hx hb dXM_meet_109 (by decide) ?_
  exact sMmeet_113  C0 hK46 I J cn cm so v1 v2 v3 v5 v7 v9 v11 v13 v15 1 h H locs ls hP hS (lv_sub hl [0, 1, 2, 3, 4, 5, 6, 7, 8, 9] rfl)
set_option maxRecDepth 100000 in
set_option maxHeartbeats 4000000 in
theorem sMmeet_46 {p : Program} {l : Launch} {e : Env} {s : State} {m : MethodId} {args : Array Value} {below : List Frame} {meth : Method} {c : Code} {D : va_G} {A : Nat → Prop} {h0 : Nat} {ad : Nat → Nat} {cI cL : ClassId} {post : Int32 → (Nat → Nat → Int32) → (Nat → Nat → Int64) → Int32 → Int64 → Int32 → Prop} (C0 : mCx p s m args meth c D A h0 ad cI cL cXM_meet 17 (some .int)) : ∀ (n : Nat) (I : Nat → Nat → Int32) (J : Nat → Nat → Int64) (cn : Int32) (cm : Int64) (so : Int32) (v1 : Int32) (v2 : Int32) (v3 : Int64) (v5 : Int64) (v7 : Int64) (v9 : Int64) (v11 : Int32) (v12 : Int32), wMmeet_46 post  n I J cn cm so v1 v2 v3 v5 v7 v9 v11 v12 → ∀ (H : Heap) (locs : List Loc) (ls : Array Slot), mW D h0 ad cI cL (I, J, cn, cm, so) H → va_S A s.heap H locs → lv_has ls 17 [(0, .ref h0), (1, .int v1), (2, .int v2), (3, .long v3), (5, .long v5), (7, .long v7), (9, .long v9), (11, .int v11), (12, .int v12)] → W p l e ({ frames := 6, cells := 0, slots := 0, locals := 145 } : Room) s m args below meth c H locs 0 0 (MQ below (va_Qi (fun (r : Int32) (u : mS) => post r u.1 u.2.1 u.2.2.1 u.2.2.2.1 u.2.2.2.2) (fxC (mW D h0 ad cI cL)) A) args s 0 0 A) (F0 m 46 ls []) := by
  obtain ⟨hx, hb, hr, hml, hown, hts, hlocks, hK, hN, hD⟩ := id C0
  intro n
  induction n with
  | zero => exact fun _ _ _ _ _ _ _ _ _ _ _ _ _ h => h.elim
  | succ n hK46 =>
    intro I J cn cm so v1 v2 v3 v5 v7 v9 v11 v12 h H locs ls hP hS hl
    replace h : ((v12 = 0 → (wMbring (fun I_9 J_9 cn_9 cm_9 so_9 => (wMbring (fun I_10 J_10 cn_10 cm_10 so_10 => (post v11 I_10 J_10 cn_10 cm_10 so_10)) I_9 J_9 cn_9 cm_9 so_9 v2 v9)) I J cn cm so v1 v7)) ∧ (¬ v12 = 0 → (vp_in v1 4 ∧ ∀ x12, x12 = (v3 &&& ((J 3 (Int32.toNatClampNeg v1)) ^^^ (-1))) &&& (v7 ^^^ (-1)) → (vp_in v2 4 ∧ ∀ x14, x14 = (v5 &&& ((J 3 (Int32.toNatClampNeg v2)) ^^^ (-1))) &&& (v9 ^^^ (-1)) → ((¬ (lg_cmp x12 0) = 0 → (wMmeet_108 post (wMmeet_46 post  n) I J cn cm so v1 v2 v3 v5 v7 v9 v11 x12 x14)) ∧ ((lg_cmp x12 0) = 0 → (((lg_cmp x14 0) = 0 → (wMmeet_113 post (wMmeet_46 post  n) I J cn cm so v1 v2 v3 v5 v7 v9 v11 x12 x14 0)) ∧ (¬ (lg_cmp x14 0) = 0 → (wMmeet_108 post (wMmeet_46 post  n) I J cn cm so v1 v2 v3 v5 v7 v9 v11 x12 x14))))))))) := h
    refine lv_iload hx hb dXM_meet_46 (lv_at hl 8 rfl) ?_
    refine lv_if_eq (tgt := 168) hx hb dXM_meet_48 (by decide) (fun c8 => ?_) (fun c8 => ?_)
    · replace h := h.1 c8
      refine lv_aload_n hx hb dXM_meet_168 rfl (lv_at hl 0 rfl) ?_
      refine lv_iload_n hx hb dXM_meet_169 rfl (lv_at hl 1 rfl) ?_
      refine lv_lload hx hb dXM_meet_170 (lv_at hl 5 rfl) ?_
      refine va_callv (va_runV (As := [.int v1, .long v7]) (rest := []) ⟨hx, hb, hml, hown, hts⟩ (cMbring hD h) (fx_cwV 2 hts gw_M_165 hdXM_bring ⟨Nat.le_of_ble_eq_true rfl, Nat.le_of_ble_eq_true rfl⟩) (fx_preV (m_recv hK hP) hP hK hN) rfl rfl hl.1 rfl (lv_room (Nat.le_of_ble_eq_true rfl)) dXM_meet_172 ⟨Nat.le_of_ble_eq_true rfl, Nat.le_of_ble_eq_true rfl⟩) hS (fun _ _ q => q) (fun _ q => q) (fun u t H locs ht hvm h hP hz hk hS => ?_)
      rw [fxC, ht] at hP
      obtain ⟨I_9, J_9, cn_9, cm_9, so_9⟩ := u
      dsimp only at h
      refine lv_aload_n hx hb dXM_meet_175 rfl (lv_at hl 0 rfl) ?_
      refine lv_iload_n hx hb dXM_meet_176 rfl (lv_at hl 2 rfl) ?_
      refine lv_lload hx hb dXM_meet_177 (lv_at hl 6 rfl) ?_
      refine va_callv (va_runV (As := [.int v2, .long v9]) (rest := []) ⟨hx, hb, hml, hown, hts⟩ (cMbring hD h) (fx_cwV 2 hts gw_M_165 hdXM_bring ⟨Nat.le_of_ble_eq_true rfl, Nat.le_of_ble_eq_true rfl⟩) (fx_preV (m_recv hK hP) hP hK hN) rfl rfl hl.1 rfl (lv_room (Nat.le_of_ble_eq_true rfl)) dXM_meet_179 ⟨Nat.le_of_ble_eq_true rfl, Nat.le_of_ble_eq_true rfl⟩) hS (fun _ _ q => q) (fun _ q => q) (fun u t H locs ht hvm h hP hz hk hS => ?_)
      rw [fxC, ht] at hP
      obtain ⟨I_10, J_10, cn_10, cm_10, so_10⟩ := u
      dsimp only at h
      refine lv_iload hx hb dXM_meet_182 (lv_at hl 7 rfl) ?_
      exact W.iret hx hb hr (fun t ht hW => ⟨⟨_, (I_10, J_10, cn_10, cm_10, so_10), rfl, h, by rw [fxC, ht]; exact hP⟩, hS.F ht⟩) hS.2.2 dXM_meet_184 hlocks
    · replace h := h.2 c8
      refine lv_lload_n hx hb dXM_meet_51 rfl (lv_at hl 3 rfl) ?_
      refine lv_aload_n hx hb dXM_meet_52 rfl (lv_at hl 0 rfl) ?_
      refine mg_holds hx hb hown hts hK hP dXM_meet_53 ?_
      refine lv_iload_n hx hb dXM_meet_56 rfl (lv_at hl 1 rfl) ?_
      obtain ⟨h11, h⟩ := h
      refine ma_9 hx hb hK hP h11 dXM_meet_57 ?_
      refine lv_ldc2 (v := (-1)) hx hb hown (hts (.constantLong RXM 151 (-1)) (fx_m (by decide +kernel))) dXM_meet_58 ?_
      refine lv_lxor hx hb dXM_meet_61 ?_
      refine lv_land hx hb dXM_meet_62 ?_
      refine lv_lload hx hb dXM_meet_63 (lv_at hl 5 rfl) ?_
      refine lv_ldc2 (v := (-1)) hx hb hown (hts (.constantLong RXM 151 (-1)) (fx_m (by decide +kernel))) dXM_meet_65 ?_
      refine lv_lxor hx hb dXM_meet_68 ?_
      refine lv_land hx hb dXM_meet_69 ?_
      refine lv_topl (fun x12 ex12 => ?_)
      replace h := h x12 ex12
      refine lv_lstore (lv' := [(13, .long x12), (0, .ref h0), (1, .int v1), (2, .int v2), (3, .long v3), (5, .long v5), (7, .long v7), (9, .long v9), (11, .int v11), (12, .int v12)]) hx hb dXM_meet_70 hl (by decide) rfl (fun ls hl => ?_)
      refine lv_lload hx hb dXM_meet_72 (lv_at hl 5 rfl) ?_
      refine lv_aload_n hx hb dXM_meet_74 rfl (lv_at hl 1 rfl) ?_
      refine mg_holds hx hb hown hts hK hP dXM_meet_75 ?_
      refine lv_iload_n hx hb dXM_meet_78 rfl (lv_at hl 3 rfl) ?_
      obtain ⟨h13, h⟩ := h
      refine ma_9 hx hb hK hP h13 dXM_meet_79 ?_
      refine lv_ldc2 (v := (-1)) hx hb hown (hts (.constantLong RXM 151 (-1)) (fx_m (by decide +kernel))) dXM_meet_80 ?_
      refine lv_lxor hx hb dXM_meet_83 ?_
      refine lv_land hx hb dXM_meet_84 ?_
      refine lv_lload hx hb dXM_meet_85 (lv_at hl 7 rfl) ?_
      refine lv_ldc2 (v := (-1)) hx hb hown (hts (.constantLong RXM 151 (-1)) (fx_m (by decide +kernel))) dXM_meet_87 ?_
      refine lv_lxor hx hb dXM_meet_90 ?_
      refine lv_land hx hb dXM_meet_91 ?_
      refine lv_topl (fun x14 ex14 => ?_)
      replace h := h x14 ex14
      refine lv_lstore (lv' := [(15, .long x14), (13, .long x12), (0, .ref h0), (1, .int v1), (2, .int v2), (3, .long v3), (5, .long v5), (7, .long v7), (9, .long v9), (11, .int v11), (12, .int v12)]) hx hb dXM_meet_92 hl (by decide) rfl (fun ls hl => ?_)
      refine lv_lload hx hb dXM_meet_94 (lv_at hl 1 rfl) ?_
      refine lv_lconst (v := 0) hx hb dXM_meet_96 (by decide) ?_
      refine W.lcmp hx hb dXM_meet_97 ?_
      refine lv_if_ne (tgt := 108) hx hb dXM_meet_98 (by decide) (fun c15 => ?_) (fun c15 => ?_)
      · replace h := h.1 c15
        exact sMmeet_108  C0 hK46 I J cn cm so v1 v2 v3 v5 v7 v9 v11 x12 x14 h H locs ls hP hS (lv_sub hl [2, 3, 4, 5, 6, 7, 8, 9, 1, 0] rfl)
      · replace h := h.2 c15
        refine lv_lload hx hb dXM_meet_101 (lv_at hl 0 rfl) ?_
        refine lv_lconst (v := 0) hx hb dXM_meet_103 (by decide) ?_
        refine W.lcmp hx hb dXM_meet_104 ?_
        refine lv_if_eq (tgt := 112) hx hb dXM_meet_105 (by decide) (fun c16 => ?_) (fun c16 => ?_)
        · replace h := h.1 c16
          refine lv_iconst (v := 0) hx hb dXM_meet_112 (by decide) ?_
          exact sMmeet_113  C0 hK46 I J cn cm so v1 v2 v3 v5 v7 v9 v11 x12 x14 0 h H locs ls hP hS (lv_sub hl [2, 3, 4, 5, 6, 7, 8, 9, 1, 0] rfl)
        · replace h := h.2 c16
          exact sMmeet_108  C0 hK46 I J cn cm so v1 v2 v3 v5 v7 v9 v11 x12 x14 h H locs ls hP hS (lv_sub hl [2, 3, 4, 5, 6, 7, 8, 9, 1, 0] rfl)
set_option maxRecDepth 100000 in
set_option maxHeartbeats 4000000 in
theorem sMmeet_in {p : Program} {l : Launch} {e : Env} {s : State} {m : MethodId} {args : Array Value} {below : List Frame} {meth : Method} {c : Code} {D : va_G} {A : Nat → Prop} {h0 : Nat} {ad : Nat → Nat} {cI cL : ClassId} {post : Int32 → (Nat → Nat → Int32) → (Nat → Nat → Int64) → Int32 → Int64 → Int32 → Prop} (C0 : mCx p s m args meth c D A h0 ad cI cL cXM_meet 17 (some .int)) : ∀ (I : Nat → Nat → Int32) (J : Nat → Nat → Int64) (cn : Int32) (cm : Int64) (so : Int32) (a1 : Int32) (a2 : Int32), wMmeet post I J cn cm so a1 a2 → ∀ (H : Heap) (locs : List Loc) (ls : Array Slot), mW D h0 ad cI cL (I, J, cn, cm, so) H → va_S A s.heap H locs → lv_has ls 17 [(0, .ref h0), (1, .int a1), (2, .int a2)] → W p l e ({ frames := 6, cells := 0, slots := 0, locals := 145 } : Room) s m args below meth c H locs 0 0 (MQ below (va_Qi (fun (r : Int32) (u : mS) => post r u.1 u.2.1 u.2.2.1 u.2.2.2.1 u.2.2.2.2) (fxC (mW D h0 ad cI cL)) A) args s 0 0 A) (F0 m 0 ls []) := by
  obtain ⟨hx, hb, hr, hml, hown, hts, hlocks, hK, hN, hD⟩ := id C0
  intro I J cn cm so a1 a2 h H locs ls hP hS hl
  replace h : (wMisReplica (fun r1 I_1 J_1 cn_1 cm_1 so_1 => ((r1 = 0 → (post (-1) I_1 J_1 cn_1 cm_1 so_1)) ∧ (¬ r1 = 0 → (wMisReplica (fun r3 I_3 J_3 cn_3 cm_3 so_3 => ((r3 = 0 → (post (-1) I_3 J_3 cn_3 cm_3 so_3)) ∧ (¬ r3 = 0 → ((¬ a1 = a2 → (wMheadSet (fun r6 I_6 J_6 cn_6 cm_6 so_6 => (wMheadSet (fun r7 I_7 J_7 cn_7 cm_7 so_7 => (∃ k, wMmeet_46 post  k I_7 J_7 cn_7 cm_7 so_7 a1 a2 r6 r7 0 0 0 1)) I_6 J_6 cn_6 cm_6 so_6 a1)) I_3 J_3 cn_3 cm_3 so_3 a2)) ∧ (a1 = a2 → (post (-1) I_3 J_3 cn_3 cm_3 so_3)))))) I_1 J_1 cn_1 cm_1 so_1 a2)))) I J cn cm so a1) := h
  refine lv_iload_n hx hb dXM_meet_0 rfl (lv_at hl 1 rfl) ?_
  refine va_calli (va_runS (As := [.int a1]) (rest := []) ⟨hx, hb, hml, hown, hts⟩ (cMisReplica hD h) (fx_cwS 1 hts gw_M_132 hdXM_isReplica ⟨Nat.le_of_ble_eq_true rfl, Nat.le_of_ble_eq_true rfl⟩) (fx_preS hP hK hN) rfl rfl hl.1 rfl (lv_room (Nat.le_of_ble_eq_true rfl)) dXM_meet_1 ⟨Nat.le_of_ble_eq_true rfl, Nat.le_of_ble_eq_true rfl⟩) hS (fun _ _ q => q) (fun _ q => q) (fun r1 u t H locs ht hvm h hP hz hk hS => ?_)
  rw [fxC, ht] at hP
  obtain ⟨I_1, J_1, cn_1, cm_1, so_1⟩ := u
  dsimp only at h
  refine lv_if_eq (tgt := 19) hx hb dXM_meet_4 (by decide) (fun c2 => ?_) (fun c2 => ?_)
  · replace h := h.1 c2
    refine lv_iconst (v := (-1)) hx hb dXM_meet_19 (by decide) ?_
    exact W.iret hx hb hr (fun t ht hW => ⟨⟨_, (I_1, J_1, cn_1, cm_1, so_1), rfl, h, by rw [fxC, ht]; exact hP⟩, hS.F ht⟩) hS.2.2 dXM_meet_20 hlocks
  · replace h := h.2 c2
    refine lv_iload_n hx hb dXM_meet_7 rfl (lv_at hl 2 rfl) ?_
    refine va_calli (va_runS (As := [.int a2]) (rest := []) ⟨hx, hb, hml, hown, hts⟩ (cMisReplica hD h) (fx_cwS 1 hts gw_M_132 hdXM_isReplica ⟨Nat.le_of_ble_eq_true rfl, Nat.le_of_ble_eq_true rfl⟩) (fx_preS hP hK hN) rfl rfl hl.1 rfl (lv_room (Nat.le_of_ble_eq_true rfl)) dXM_meet_8 ⟨Nat.le_of_ble_eq_true rfl, Nat.le_of_ble_eq_true rfl⟩) hS (fun _ _ q => q) (fun _ q => q) (fun r3 u t H locs ht hvm h hP hz hk hS => ?_)
    rw [fxC, ht] at hP
    obtain ⟨I_3, J_3, cn_3, cm_3, so_3⟩ := u
    dsimp only at h
    refine lv_if_eq (tgt := 19) hx hb dXM_meet_11 (by decide) (fun c4 => ?_) (fun c4 => ?_)
    · replace h := h.1 c4
      refine lv_iconst (v := (-1)) hx hb dXM_meet_19 (by decide) ?_
      exact W.iret hx hb hr (fun t ht hW => ⟨⟨_, (I_3, J_3, cn_3, cm_3, so_3), rfl, h, by rw [fxC, ht]; exact hP⟩, hS.F ht⟩) hS.2.2 dXM_meet_20 hlocks
    · replace h := h.2 c4
      refine lv_iload_n hx hb dXM_meet_14 rfl (lv_at hl 1 rfl) ?_
      refine lv_iload_n hx hb dXM_meet_15 rfl (lv_at hl 2 rfl) ?_
      refine lv_icmp_ne (tgt := 21) hx hb dXM_meet_16 (by decide) (fun c5 => ?_) (fun c5 => ?_)
      · replace h := h.1 c5
        refine lv_aload_n hx hb dXM_meet_21 rfl (lv_at hl 0 rfl) ?_
        refine lv_iload_n hx hb dXM_meet_22 rfl (lv_at hl 2 rfl) ?_
        refine va_calll (va_runV (As := [.int a2]) (rest := []) ⟨hx, hb, hml, hown, hts⟩ (cMheadSet hD h) (fx_cwV 1 hts gw_M_157 hdXM_headSet ⟨Nat.le_of_ble_eq_true rfl, Nat.le_of_ble_eq_true rfl⟩) (fx_preV (m_recv hK hP) hP hK hN) rfl rfl hl.1 rfl (lv_room (Nat.le_of_ble_eq_true rfl)) dXM_meet_23 ⟨Nat.le_of_ble_eq_true rfl, Nat.le_of_ble_eq_true rfl⟩) hS (fun _ _ q => q) (fun _ q => q) (fun r6 u t H locs ht hvm h hP hz hk hS => ?_)
        rw [fxC, ht] at hP
        obtain ⟨I_6, J_6, cn_6, cm_6, so_6⟩ := u
        dsimp only at h
        refine lv_lstore_n (lv' := [(3, .long r6), (0, .ref h0), (1, .int a1), (2, .int a2)]) hx hb dXM_meet_26 rfl hl (by decide) rfl (fun ls hl => ?_)
        refine lv_aload_n hx hb dXM_meet_27 rfl (lv_at hl 1 rfl) ?_
        refine lv_iload_n hx hb dXM_meet_28 rfl (lv_at hl 2 rfl) ?_
        refine va_calll (va_runV (As := [.int a1]) (rest := []) ⟨hx, hb, hml, hown, hts⟩ (cMheadSet hD h) (fx_cwV 1 hts gw_M_157 hdXM_headSet ⟨Nat.le_of_ble_eq_true rfl, Nat.le_of_ble_eq_true rfl⟩) (fx_preV (m_recv hK hP) hP hK hN) rfl rfl hl.1 rfl (lv_room (Nat.le_of_ble_eq_true rfl)) dXM_meet_29 ⟨Nat.le_of_ble_eq_true rfl, Nat.le_of_ble_eq_true rfl⟩) hS (fun _ _ q => q) (fun _ q => q) (fun r7 u t H locs ht hvm h hP hz hk hS => ?_)
        rw [fxC, ht] at hP
        obtain ⟨I_7, J_7, cn_7, cm_7, so_7⟩ := u
        dsimp only at h
        refine lv_lstore (lv' := [(5, .long r7), (3, .long r6), (0, .ref h0), (1, .int a1), (2, .int a2)]) hx hb dXM_meet_32 hl (by decide) rfl (fun ls hl => ?_)
        refine lv_lconst (v := 0) hx hb dXM_meet_34 (by decide) ?_
        refine lv_lstore (lv' := [(7, .long 0), (5, .long r7), (3, .long r6), (0, .ref h0), (1, .int a1), (2, .int a2)]) hx hb dXM_meet_35 hl (by decide) rfl (fun ls hl => ?_)
        refine lv_lconst (v := 0) hx hb dXM_meet_37 (by decide) ?_
        refine lv_lstore (lv' := [(9, .long 0), (7, .long 0), (5, .long r7), (3, .long r6), (0, .ref h0), (1, .int a1), (2, .int a2)]) hx hb dXM_meet_38 hl (by decide) rfl (fun ls hl => ?_)
        refine lv_iconst (v := 0) hx hb dXM_meet_40 (by decide) ?_
        refine lv_istore (lv' := [(11, .int 0), (9, .long 0), (7, .long 0), (5, .long r7), (3, .long r6), (0, .ref h0), (1, .int a1), (2, .int a2)]) hx hb dXM_meet_41 hl (by decide) rfl (fun ls hl => ?_)
        refine lv_iconst (v := 1) hx hb dXM_meet_43 (by decide) ?_
        refine lv_istore (lv' := [(12, .int 1), (11, .int 0), (9, .long 0), (7, .long 0), (5, .long r7), (3, .long r6), (0, .ref h0), (1, .int a1), (2, .int a2)]) hx hb dXM_meet_44 hl (by decide) rfl (fun ls hl => ?_)
        obtain ⟨k, h⟩ := h
        exact sMmeet_46  C0  k I_7 J_7 cn_7 cm_7 so_7 a1 a2 r6 r7 0 0 0 1 h H locs ls hP hS (lv_sub hl [6, 7, 8, 5, 4, 3, 2, 1, 0] rfl)
      · replace h := h.2 c5
        refine lv_iconst (v := (-1)) hx hb dXM_meet_19 (by decide) ?_
        exact W.iret hx hb hr (fun t ht hW => ⟨⟨_, (I_3, J_3, cn_3, cm_3, so_3), rfl, h, by rw [fxC, ht]; exact hP⟩, hS.F ht⟩) hS.2.2 dXM_meet_20 hlocks
set_option maxRecDepth 100000 in
set_option maxHeartbeats 4000000 in
theorem cMmeet {l : Launch} {D : va_G} {A : Nat → Prop} {h0 : Nat} {ad : Nat → Nat} {cI cL : ClassId} (hD : mDs A h0 ad cI cL) {post : Int32 → (Nat → Nat → Int32) → (Nat → Nat → Int64) → Int32 → Int64 → Int32 → Prop} {I : Nat → Nat → Int32} {J : Nat → Nat → Int64} {cn : Int32} {cm : Int64} {so : Int32} {a1 : Int32} {a2 : Int32} (h : wMmeet post I J cn cm so a1 a2) : Met l yXM_meet (.code yXM_meet cXM_meet 17 (some .int) :: lg_tbl) ({ frames := 6, cells := 0, slots := 0, locals := 145 } : Room) (va_Pc [.ref h0, .int a1, .int a2] (fxB (mW D h0 ad cI cL (I, J, cn, cm, so)) D vwCl (mTy cI cL))) (va_Qi (fun (r : Int32) (u : mS) => post r u.1 u.2.1 u.2.2.1 u.2.2.2.1 u.2.2.2.2) (fxC (mW D h0 ad cI cL)) A) 0 0 A := by
  refine fx_start (by decide +kernel) (Nat.le_of_ble_eq_true rfl) ?_
  intro p e s m below meth c ls hx hb hr hml hown hts hlocks hnm hB hl
  exact sMmeet_in ⟨hx, hb, hr, hml, hown, hts, hlocks, hB.2.1, hB.2.2, hD⟩ I J cn cm so a1 a2 h _ _ ls hB.1 va_S.rf hl
def wMdrop (post : Int32 → (Nat → Nat → Int32) → (Nat → Nat → Int64) → Int32 → Int64 → Int32 → Prop) (I : Nat → Nat → Int32) (J : Nat → Nat → Int64) (cn : Int32) (cm : Int64) (so : Int32) (a1 : Int32) : Prop := (wMisReplica (fun r1 I_1 J_1 cn_1 cm_1 so_1 => ((¬ r1 = 0 → (vp_in a1 4 ∧ (vp_in a1 4 ∧ ∀ I4, I4 = mi_up I_1 6 (Int32.toNatClampNeg a1) 0 → (post (I_1 6 (Int32.toNatClampNeg a1)) I4 J_1 cn_1 cm_1 so_1)))) ∧ (r1 = 0 → (post (-1) I_1 J_1 cn_1 cm_1 so_1)))) I J cn cm so a1)
set_option maxRecDepth 100000 in
set_option maxHeartbeats 4000000 in
theorem sMdrop_in {p : Program} {l : Launch} {e : Env} {s : State} {m : MethodId} {args : Array Value} {below : List Frame} {meth : Method} {c : Code} {D : va_G} {A : Nat → Prop} {h0 : Nat} {ad : Nat → Nat} {cI cL : ClassId} {post : Int32 → (Nat → Nat → Int32) → (Nat → Nat → Int64) → Int32 → Int64 → Int32 → Prop} (C0 : mCx p s m args meth c D A h0 ad cI cL cXM_drop 3 (some .int)) : ∀ (I : Nat → Nat → Int32) (J : Nat → Nat → Int64) (cn : Int32) (cm : Int64) (so : Int32) (a1 : Int32), wMdrop post I J cn cm so a1 → ∀ (H : Heap) (locs : List Loc) (ls : Array Slot), mW D h0 ad cI cL (I, J, cn, cm, so) H → va_S A s.heap H locs → lv_has ls 3 [(0, .ref h0), (1, .int a1)] → W p l e ({ frames := 1, cells := 0, slots := 0, locals := 20 } : Room) s m args below meth c H locs 0 0 (MQ below (va_Qi (fun (r : Int32) (u : mS) => post r u.1 u.2.1 u.2.2.1 u.2.2.2.1 u.2.2.2.2) (fxC (mW D h0 ad cI cL)) A) args s 0 0 A) (F0 m 0 ls []) := by
  obtain ⟨hx, hb, hr, hml, hown, hts, hlocks, hK, hN, hD⟩ := id C0
  intro I J cn cm so a1 h H locs ls hP hS hl
  replace h : (wMisReplica (fun r1 I_1 J_1 cn_1 cm_1 so_1 => ((¬ r1 = 0 → (vp_in a1 4 ∧ (vp_in a1 4 ∧ ∀ I4, I4 = mi_up I_1 6 (Int32.toNatClampNeg a1) 0 → (post (I_1 6 (Int32.toNatClampNeg a1)) I4 J_1 cn_1 cm_1 so_1)))) ∧ (r1 = 0 → (post (-1) I_1 J_1 cn_1 cm_1 so_1)))) I J cn cm so a1) := h
  refine lv_iload_n hx hb dXM_drop_0 rfl (lv_at hl 1 rfl) ?_
  refine va_calli (va_runS (As := [.int a1]) (rest := []) ⟨hx, hb, hml, hown, hts⟩ (cMisReplica hD h) (fx_cwS 1 hts gw_M_132 hdXM_isReplica ⟨Nat.le_of_ble_eq_true rfl, Nat.le_of_ble_eq_true rfl⟩) (fx_preS hP hK hN) rfl rfl hl.1 rfl (lv_room (Nat.le_of_ble_eq_true rfl)) dXM_drop_1 ⟨Nat.le_of_ble_eq_true rfl, Nat.le_of_ble_eq_true rfl⟩) hS (fun _ _ q => q) (fun _ q => q) (fun r1 u t H locs ht hvm h hP hz hk hS => ?_)
  rw [fxC, ht] at hP
  obtain ⟨I_1, J_1, cn_1, cm_1, so_1⟩ := u
  dsimp only at h
  refine lv_if_ne (tgt := 9) hx hb dXM_drop_4 (by decide) (fun c2 => ?_) (fun c2 => ?_)
  · replace h := h.1 c2
    refine lv_aload_n hx hb dXM_drop_9 rfl (lv_at hl 0 rfl) ?_
    refine mg_waits hx hb hown hts hK hP dXM_drop_10 ?_
    refine lv_iload_n hx hb dXM_drop_13 rfl (lv_at hl 1 rfl) ?_
    obtain ⟨h3, h⟩ := h
    refine ma_10 hx hb hK hP h3 dXM_drop_14 ?_
    refine lv_istore_n (lv' := [(2, .int (I_1 6 (Int32.toNatClampNeg a1))), (0, .ref h0), (1, .int a1)]) hx hb dXM_drop_15 rfl hl (by decide) rfl (fun ls hl => ?_)
    refine lv_aload_n hx hb dXM_drop_16 rfl (lv_at hl 1 rfl) ?_
    refine mg_waits hx hb hown hts hK hP dXM_drop_17 ?_
    refine lv_iload_n hx hb dXM_drop_20 rfl (lv_at hl 2 rfl) ?_
    refine lv_iconst (v := 0) hx hb dXM_drop_21 (by decide) ?_
    obtain ⟨h5, h⟩ := h
    obtain ⟨I4, eI4⟩ : ∃ y, y = mi_up I_1 6 (Int32.toNatClampNeg a1) 0 := ⟨_, rfl⟩
    replace h := h I4 eI4
    refine ms_10 hx hb hK hD hP hS h5 dXM_drop_22 (fun H locs hP hS => ?_)
    rw [← eI4] at hP
    refine lv_iload_n hx hb dXM_drop_23 rfl (lv_at hl 0 rfl) ?_
    exact W.iret hx hb hr (fun t ht hW => ⟨⟨_, (I4, J_1, cn_1, cm_1, so_1), rfl, h, by rw [fxC, ht]; exact hP⟩, hS.F ht⟩) hS.2.2 dXM_drop_24 hlocks
  · replace h := h.2 c2
    refine lv_iconst (v := (-1)) hx hb dXM_drop_7 (by decide) ?_
    exact W.iret hx hb hr (fun t ht hW => ⟨⟨_, (I_1, J_1, cn_1, cm_1, so_1), rfl, h, by rw [fxC, ht]; exact hP⟩, hS.F ht⟩) hS.2.2 dXM_drop_8 hlocks
set_option maxRecDepth 100000 in
set_option maxHeartbeats 4000000 in
theorem cMdrop {l : Launch} {D : va_G} {A : Nat → Prop} {h0 : Nat} {ad : Nat → Nat} {cI cL : ClassId} (hD : mDs A h0 ad cI cL) {post : Int32 → (Nat → Nat → Int32) → (Nat → Nat → Int64) → Int32 → Int64 → Int32 → Prop} {I : Nat → Nat → Int32} {J : Nat → Nat → Int64} {cn : Int32} {cm : Int64} {so : Int32} {a1 : Int32} (h : wMdrop post I J cn cm so a1) : Met l yXM_drop (.code yXM_drop cXM_drop 3 (some .int) :: lg_tbl) ({ frames := 1, cells := 0, slots := 0, locals := 20 } : Room) (va_Pc [.ref h0, .int a1] (fxB (mW D h0 ad cI cL (I, J, cn, cm, so)) D vwCl (mTy cI cL))) (va_Qi (fun (r : Int32) (u : mS) => post r u.1 u.2.1 u.2.2.1 u.2.2.2.1 u.2.2.2.2) (fxC (mW D h0 ad cI cL)) A) 0 0 A := by
  refine fx_start (by decide +kernel) (Nat.le_of_ble_eq_true rfl) ?_
  intro p e s m below meth c ls hx hb hr hml hown hts hlocks hnm hB hl
  exact sMdrop_in ⟨hx, hb, hr, hml, hown, hts, hlocks, hB.2.1, hB.2.2, hD⟩ I J cn cm so a1 h _ _ ls hB.1 va_S.rf hl
def wMplaceOf (post : Int32 → (Nat → Nat → Int32) → (Nat → Nat → Int64) → Int32 → Int64 → Int32 → Prop) (I : Nat → Nat → Int32) (J : Nat → Nat → Int64) (cn : Int32) (cm : Int64) (so : Int32) (a1 : Int32) (a2 : Int32) : Prop := (wMisReplica (fun r1 I_1 J_1 cn_1 cm_1 so_1 => ((¬ r1 = 0 → (vp_in a1 4 ∧ (wMsort (fun I_4 J_4 cn_4 cm_4 so_4 => ((a2 < 0 → (post (-1) I_4 J_4 cn_4 cm_4 so_4)) ∧ (¬ a2 < 0 → ((so_4 ≤ a2 → (post (-1) I_4 J_4 cn_4 cm_4 so_4)) ∧ (¬ so_4 ≤ a2 → (vp_in a2 40 ∧ (post (I_4 10 (Int32.toNatClampNeg a2)) I_4 J_4 cn_4 cm_4 so_4))))))) I_1 J_1 cn_1 cm_1 so_1 (J_1 3 (Int32.toNatClampNeg a1)) 1))) ∧ (r1 = 0 → (post (-1) I_1 J_1 cn_1 cm_1 so_1)))) I J cn cm so a1)
set_option maxRecDepth 100000 in
set_option maxHeartbeats 4000000 in
theorem sMplaceOf_in {p : Program} {l : Launch} {e : Env} {s : State} {m : MethodId} {args : Array Value} {below : List Frame} {meth : Method} {c : Code} {D : va_G} {A : Nat → Prop} {h0 : Nat} {ad : Nat → Nat} {cI cL : ClassId} {post : Int32 → (Nat → Nat → Int32) → (Nat → Nat → Int64) → Int32 → Int64 → Int32 → Prop} (C0 : mCx p s m args meth c D A h0 ad cI cL cXM_placeOf 3 (some .int)) : ∀ (I : Nat → Nat → Int32) (J : Nat → Nat → Int64) (cn : Int32) (cm : Int64) (so : Int32) (a1 : Int32) (a2 : Int32), wMplaceOf post I J cn cm so a1 a2 → ∀ (H : Heap) (locs : List Loc) (ls : Array Slot), mW D h0 ad cI cL (I, J, cn, cm, so) H → va_S A s.heap H locs → lv_has ls 3 [(0, .ref h0), (1, .int a1), (2, .int a2)] → W p l e ({ frames := 2, cells := 0, slots := 0, locals := 48 } : Room) s m args below meth c H locs 0 0 (MQ below (va_Qi (fun (r : Int32) (u : mS) => post r u.1 u.2.1 u.2.2.1 u.2.2.2.1 u.2.2.2.2) (fxC (mW D h0 ad cI cL)) A) args s 0 0 A) (F0 m 0 ls []) := by
  obtain ⟨hx, hb, hr, hml, hown, hts, hlocks, hK, hN, hD⟩ := id C0
  intro I J cn cm so a1 a2 h H locs ls hP hS hl
  replace h : (wMisReplica (fun r1 I_1 J_1 cn_1 cm_1 so_1 => ((¬ r1 = 0 → (vp_in a1 4 ∧ (wMsort (fun I_4 J_4 cn_4 cm_4 so_4 => ((a2 < 0 → (post (-1) I_4 J_4 cn_4 cm_4 so_4)) ∧ (¬ a2 < 0 → ((so_4 ≤ a2 → (post (-1) I_4 J_4 cn_4 cm_4 so_4)) ∧ (¬ so_4 ≤ a2 → (vp_in a2 40 ∧ (post (I_4 10 (Int32.toNatClampNeg a2)) I_4 J_4 cn_4 cm_4 so_4))))))) I_1 J_1 cn_1 cm_1 so_1 (J_1 3 (Int32.toNatClampNeg a1)) 1))) ∧ (r1 = 0 → (post (-1) I_1 J_1 cn_1 cm_1 so_1)))) I J cn cm so a1) := h
  refine lv_iload_n hx hb dXM_placeOf_0 rfl (lv_at hl 1 rfl) ?_
  refine va_calli (va_runS (As := [.int a1]) (rest := []) ⟨hx, hb, hml, hown, hts⟩ (cMisReplica hD h) (fx_cwS 1 hts gw_M_132 hdXM_isReplica ⟨Nat.le_of_ble_eq_true rfl, Nat.le_of_ble_eq_true rfl⟩) (fx_preS hP hK hN) rfl rfl hl.1 rfl (lv_room (Nat.le_of_ble_eq_true rfl)) dXM_placeOf_1 ⟨Nat.le_of_ble_eq_true rfl, Nat.le_of_ble_eq_true rfl⟩) hS (fun _ _ q => q) (fun _ q => q) (fun r1 u t H locs ht hvm h hP hz hk hS => ?_)
  rw [fxC, ht] at hP
  obtain ⟨I_1, J_1, cn_1, cm_1, so_1⟩ := u
  dsimp only at h
  refine lv_if_ne (tgt := 9) hx hb dXM_placeOf_4 (by decide) (fun c2 => ?_) (fun c2 => ?_)
  · replace h := h.1 c2
    refine lv_aload_n hx hb dXM_placeOf_9 rfl (lv_at hl 0 rfl) ?_
    refine lv_aload_n hx hb dXM_placeOf_10 rfl (lv_at hl 0 rfl) ?_
    refine mg_holds hx hb hown hts hK hP dXM_placeOf_11 ?_
    refine lv_iload_n hx hb dXM_placeOf_14 rfl (lv_at hl 1 rfl) ?_
    obtain ⟨h3, h⟩ := h
    refine ma_9 hx hb hK hP h3 dXM_placeOf_15 ?_
    refine lv_iconst (v := 1) hx hb dXM_placeOf_16 (by decide) ?_
    refine va_callv (va_runV (As := [.long (J_1 3 (Int32.toNatClampNeg a1)), .int 1]) (rest := []) ⟨hx, hb, hml, hown, hts⟩ (cMsort hD h) (fx_cwV 2 hts gw_M_153 hdXM_sort ⟨Nat.le_of_ble_eq_true rfl, Nat.le_of_ble_eq_true rfl⟩) (fx_preV (m_recv hK hP) hP hK hN) rfl rfl hl.1 rfl (lv_room (Nat.le_of_ble_eq_true rfl)) dXM_placeOf_17 ⟨Nat.le_of_ble_eq_true rfl, Nat.le_of_ble_eq_true rfl⟩) hS (fun _ _ q => q) (fun _ q => q) (fun u t H locs ht hvm h hP hz hk hS => ?_)
    rw [fxC, ht] at hP
    obtain ⟨I_4, J_4, cn_4, cm_4, so_4⟩ := u
    dsimp only at h
    refine lv_iload_n hx hb dXM_placeOf_20 rfl (lv_at hl 2 rfl) ?_
    refine lv_if_lt (tgt := 41) hx hb dXM_placeOf_21 (by decide) (fun c5 => ?_) (fun c5 => ?_)
    · replace h := h.1 c5
      refine lv_iconst (v := (-1)) hx hb dXM_placeOf_41 (by decide) ?_
      exact W.iret hx hb hr (fun t ht hW => ⟨⟨_, (I_4, J_4, cn_4, cm_4, so_4), rfl, h, by rw [fxC, ht]; exact hP⟩, hS.F ht⟩) hS.2.2 dXM_placeOf_42 hlocks
    · replace h := h.2 c5
      refine lv_iload_n hx hb dXM_placeOf_24 rfl (lv_at hl 2 rfl) ?_
      refine lv_aload_n hx hb dXM_placeOf_25 rfl (lv_at hl 0 rfl) ?_
      refine mg_sorted hx hb hown hts hK hP dXM_placeOf_26 ?_
      refine lv_icmp_ge (tgt := 41) hx hb dXM_placeOf_29 (by decide) (fun c6 => ?_) (fun c6 => ?_)
      · replace h := h.1 c6
        refine lv_iconst (v := (-1)) hx hb dXM_placeOf_41 (by decide) ?_
        exact W.iret hx hb hr (fun t ht hW => ⟨⟨_, (I_4, J_4, cn_4, cm_4, so_4), rfl, h, by rw [fxC, ht]; exact hP⟩, hS.F ht⟩) hS.2.2 dXM_placeOf_42 hlocks
      · replace h := h.2 c6
        refine lv_aload_n hx hb dXM_placeOf_32 rfl (lv_at hl 0 rfl) ?_
        refine mg_order hx hb hown hts hK hP dXM_placeOf_33 ?_
        refine lv_iload_n hx hb dXM_placeOf_36 rfl (lv_at hl 2 rfl) ?_
        obtain ⟨h7, h⟩ := h
        refine ma_18 hx hb hK hP h7 dXM_placeOf_37 ?_
        refine lv_goto (tgt := 42) hx hb dXM_placeOf_38 (by decide) ?_
        exact W.iret hx hb hr (fun t ht hW => ⟨⟨_, (I_4, J_4, cn_4, cm_4, so_4), rfl, h, by rw [fxC, ht]; exact hP⟩, hS.F ht⟩) hS.2.2 dXM_placeOf_42 hlocks
  · replace h := h.2 c2
    refine lv_iconst (v := (-1)) hx hb dXM_placeOf_7 (by decide) ?_
    exact W.iret hx hb hr (fun t ht hW => ⟨⟨_, (I_1, J_1, cn_1, cm_1, so_1), rfl, h, by rw [fxC, ht]; exact hP⟩, hS.F ht⟩) hS.2.2 dXM_placeOf_8 hlocks
set_option maxRecDepth 100000 in
set_option maxHeartbeats 4000000 in
theorem cMplaceOf {l : Launch} {D : va_G} {A : Nat → Prop} {h0 : Nat} {ad : Nat → Nat} {cI cL : ClassId} (hD : mDs A h0 ad cI cL) {post : Int32 → (Nat → Nat → Int32) → (Nat → Nat → Int64) → Int32 → Int64 → Int32 → Prop} {I : Nat → Nat → Int32} {J : Nat → Nat → Int64} {cn : Int32} {cm : Int64} {so : Int32} {a1 : Int32} {a2 : Int32} (h : wMplaceOf post I J cn cm so a1 a2) : Met l yXM_placeOf (.code yXM_placeOf cXM_placeOf 3 (some .int) :: lg_tbl) ({ frames := 2, cells := 0, slots := 0, locals := 48 } : Room) (va_Pc [.ref h0, .int a1, .int a2] (fxB (mW D h0 ad cI cL (I, J, cn, cm, so)) D vwCl (mTy cI cL))) (va_Qi (fun (r : Int32) (u : mS) => post r u.1 u.2.1 u.2.2.1 u.2.2.2.1 u.2.2.2.2) (fxC (mW D h0 ad cI cL)) A) 0 0 A := by
  refine fx_start (by decide +kernel) (Nat.le_of_ble_eq_true rfl) ?_
  intro p e s m below meth c ls hx hb hr hml hown hts hlocks hnm hB hl
  exact sMplaceOf_in ⟨hx, hb, hr, hml, hown, hts, hlocks, hB.2.1, hB.2.2, hD⟩ I J cn cm so a1 a2 h _ _ ls hB.1 va_S.rf hl
noncomputable def wMsize_4 (post : Int32 → (Nat → Nat → Int32) → (Nat → Nat → Int64) → Int32 → Int64 → Int32 → Prop) (n : Nat) : (Nat → Nat → Int32) → (Nat → Nat → Int64) → Int32 → Int64 → Int32 → Int64 → Int32 → Int32 → Prop := Nat.rec (motive := fun _ => (Nat → Nat → Int32) → (Nat → Nat → Int64) → Int32 → Int64 → Int32 → Int64 → Int32 → Int32 → Prop) (fun _ _ _ _ _ _ _ _ => False) (fun _ K4 I J cn cm so v0 v2 v3 => ((40 ≤ v3 → (post v2 I J cn cm so)) ∧ (¬ 40 ≤ v3 → (wMin (fun r2 I_2 J_2 cn_2 cm_2 so_2 => ((r2 = 0 → (K4 I_2 J_2 cn_2 cm_2 so_2 v0 (v2 + 0) (v3 + 1))) ∧ (¬ r2 = 0 → (K4 I_2 J_2 cn_2 cm_2 so_2 v0 (v2 + 1) (v3 + 1))))) I J cn cm so v0 v3)))) n
def wMsize (post : Int32 → (Nat → Nat → Int32) → (Nat → Nat → Int64) → Int32 → Int64 → Int32 → Prop) (I : Nat → Nat → Int32) (J : Nat → Nat → Int64) (cn : Int32) (cm : Int64) (so : Int32) (a1 : Int64) : Prop := (∃ k, wMsize_4 post  k I J cn cm so a1 0 0)
set_option maxRecDepth 100000 in
set_option maxHeartbeats 4000000 in
theorem sMsize_4 {p : Program} {l : Launch} {e : Env} {s : State} {m : MethodId} {args : Array Value} {below : List Frame} {meth : Method} {c : Code} {D : va_G} {A : Nat → Prop} {h0 : Nat} {ad : Nat → Nat} {cI cL : ClassId} {post : Int32 → (Nat → Nat → Int32) → (Nat → Nat → Int64) → Int32 → Int64 → Int32 → Prop} (C0 : mCx p s m args meth c D A h0 ad cI cL cXM_size 4 (some .int)) : ∀ (n : Nat) (I : Nat → Nat → Int32) (J : Nat → Nat → Int64) (cn : Int32) (cm : Int64) (so : Int32) (v0 : Int64) (v2 : Int32) (v3 : Int32), wMsize_4 post  n I J cn cm so v0 v2 v3 → ∀ (H : Heap) (locs : List Loc) (ls : Array Slot), mW D h0 ad cI cL (I, J, cn, cm, so) H → va_S A s.heap H locs → lv_has ls 4 [(0, .long v0), (2, .int v2), (3, .int v3)] → W p l e ({ frames := 1, cells := 0, slots := 0, locals := 22 } : Room) s m args below meth c H locs 0 0 (MQ below (va_Qi (fun (r : Int32) (u : mS) => post r u.1 u.2.1 u.2.2.1 u.2.2.2.1 u.2.2.2.2) (fxC (mW D h0 ad cI cL)) A) args s 0 0 A) (F0 m 4 ls []) := by
  obtain ⟨hx, hb, hr, hml, hown, hts, hlocks, hK, hN, hD⟩ := id C0
  intro n
  induction n with
  | zero => exact fun _ _ _ _ _ _ _ _ h => h.elim
  | succ n hK4 =>
    intro I J cn cm so v0 v2 v3 h H locs ls hP hS hl
    replace h : ((40 ≤ v3 → (post v2 I J cn cm so)) ∧ (¬ 40 ≤ v3 → (wMin (fun r2 I_2 J_2 cn_2 cm_2 so_2 => ((r2 = 0 → ((wMsize_4 post  n) I_2 J_2 cn_2 cm_2 so_2 v0 (v2 + 0) (v3 + 1))) ∧ (¬ r2 = 0 → ((wMsize_4 post  n) I_2 J_2 cn_2 cm_2 so_2 v0 (v2 + 1) (v3 + 1))))) I J cn cm so v0 v3))) := h
    refine lv_iload_n hx hb dXM_size_4 rfl (lv_at hl 2 rfl) ?_
    refine lv_bipush (v := 40) hx hb dXM_size_5 (by decide) ?_
    refine lv_icmp_ge (tgt := 32) hx hb dXM_size_7 (by decide) (fun c1 => ?_) (fun c1 => ?_)
    · replace h := h.1 c1
      refine lv_iload_n hx hb dXM_size_32 rfl (lv_at hl 1 rfl) ?_
      exact W.iret hx hb hr (fun t ht hW => ⟨⟨_, (I, J, cn, cm, so), rfl, h, by rw [fxC, ht]; exact hP⟩, hS.F ht⟩) hS.2.2 dXM_size_33 hlocks
    · replace h := h.2 c1
      refine lv_iload_n hx hb dXM_size_10 rfl (lv_at hl 1 rfl) ?_
      refine lv_lload_n hx hb dXM_size_11 rfl (lv_at hl 0 rfl) ?_
      refine lv_iload_n hx hb dXM_size_12 rfl (lv_at hl 2 rfl) ?_
      refine va_calli (va_runS (As := [.long v0, .int v3]) (rest := [.int v2]) ⟨hx, hb, hml, hown, hts⟩ (cMin hD h) (fx_cwS 2 hts gw_M_88 hdXM_in ⟨Nat.le_of_ble_eq_true rfl, Nat.le_of_ble_eq_true rfl⟩) (fx_preS hP hK hN) rfl rfl hl.1 rfl (lv_room (Nat.le_of_ble_eq_true rfl)) dXM_size_13 ⟨Nat.le_of_ble_eq_true rfl, Nat.le_of_ble_eq_true rfl⟩) hS (fun _ _ q => q) (fun _ q => q) (fun r2 u t H locs ht hvm h hP hz hk hS => ?_)
      rw [fxC, ht] at hP
      obtain ⟨I_2, J_2, cn_2, cm_2, so_2⟩ := u
      dsimp only at h
      refine lv_if_eq (tgt := 23) hx hb dXM_size_16 (by decide) (fun c3 => ?_) (fun c3 => ?_)
      · replace h := h.1 c3
        refine lv_iconst (v := 0) hx hb dXM_size_23 (by decide) ?_
        refine lv_iadd hx hb dXM_size_24 ?_
        refine lv_istore_n (lv' := [(2, .int (v2 + 0)), (0, .long v0), (3, .int v3)]) hx hb dXM_size_25 rfl hl (by decide) rfl (fun ls hl => ?_)
        refine lv_iinc (v := v3 + 1) (lv' := [(3, .int (v3 + 1)), (2, .int (v2 + 0)), (0, .long v0)]) hx hb dXM_size_26 hl (k := 2) rfl rfl (by decide) rfl (fun ls hl => ?_)
        refine lv_goto (tgt := 4) hx hb dXM_size_29 (by decide) ?_
        exact hK4 I_2 J_2 cn_2 cm_2 so_2 v0 (v2 + 0) (v3 + 1) h H locs ls hP hS (lv_sub hl [2, 1, 0] rfl)
      · replace h := h.2 c3
        refine lv_iconst (v := 1) hx hb dXM_size_19 (by decide) ?_
        refine lv_goto (tgt := 24) hx hb dXM_size_20 (by decide) ?_
        refine lv_iadd hx hb dXM_size_24 ?_
        refine lv_istore_n (lv' := [(2, .int (v2 + 1)), (0, .long v0), (3, .int v3)]) hx hb dXM_size_25 rfl hl (by decide) rfl (fun ls hl => ?_)
        refine lv_iinc (v := v3 + 1) (lv' := [(3, .int (v3 + 1)), (2, .int (v2 + 1)), (0, .long v0)]) hx hb dXM_size_26 hl (k := 2) rfl rfl (by decide) rfl (fun ls hl => ?_)
        refine lv_goto (tgt := 4) hx hb dXM_size_29 (by decide) ?_
        exact hK4 I_2 J_2 cn_2 cm_2 so_2 v0 (v2 + 1) (v3 + 1) h H locs ls hP hS (lv_sub hl [2, 1, 0] rfl)
set_option maxRecDepth 100000 in
set_option maxHeartbeats 4000000 in
theorem sMsize_in {p : Program} {l : Launch} {e : Env} {s : State} {m : MethodId} {args : Array Value} {below : List Frame} {meth : Method} {c : Code} {D : va_G} {A : Nat → Prop} {h0 : Nat} {ad : Nat → Nat} {cI cL : ClassId} {post : Int32 → (Nat → Nat → Int32) → (Nat → Nat → Int64) → Int32 → Int64 → Int32 → Prop} (C0 : mCx p s m args meth c D A h0 ad cI cL cXM_size 4 (some .int)) : ∀ (I : Nat → Nat → Int32) (J : Nat → Nat → Int64) (cn : Int32) (cm : Int64) (so : Int32) (a1 : Int64), wMsize post I J cn cm so a1 → ∀ (H : Heap) (locs : List Loc) (ls : Array Slot), mW D h0 ad cI cL (I, J, cn, cm, so) H → va_S A s.heap H locs → lv_has ls 4 [(0, .long a1)] → W p l e ({ frames := 1, cells := 0, slots := 0, locals := 22 } : Room) s m args below meth c H locs 0 0 (MQ below (va_Qi (fun (r : Int32) (u : mS) => post r u.1 u.2.1 u.2.2.1 u.2.2.2.1 u.2.2.2.2) (fxC (mW D h0 ad cI cL)) A) args s 0 0 A) (F0 m 0 ls []) := by
  obtain ⟨hx, hb, hr, hml, hown, hts, hlocks, hK, hN, hD⟩ := id C0
  intro I J cn cm so a1 h H locs ls hP hS hl
  replace h : (∃ k, wMsize_4 post  k I J cn cm so a1 0 0) := h
  refine lv_iconst (v := 0) hx hb dXM_size_0 (by decide) ?_
  refine lv_istore_n (lv' := [(2, .int 0), (0, .long a1)]) hx hb dXM_size_1 rfl hl (by decide) rfl (fun ls hl => ?_)
  refine lv_iconst (v := 0) hx hb dXM_size_2 (by decide) ?_
  refine lv_istore_n (lv' := [(3, .int 0), (2, .int 0), (0, .long a1)]) hx hb dXM_size_3 rfl hl (by decide) rfl (fun ls hl => ?_)
  obtain ⟨k, h⟩ := h
  exact sMsize_4  C0  k I J cn cm so a1 0 0 h H locs ls hP hS (lv_sub hl [2, 1, 0] rfl)
set_option maxRecDepth 100000 in
set_option maxHeartbeats 4000000 in
theorem cMsize {l : Launch} {D : va_G} {A : Nat → Prop} {h0 : Nat} {ad : Nat → Nat} {cI cL : ClassId} (hD : mDs A h0 ad cI cL) {post : Int32 → (Nat → Nat → Int32) → (Nat → Nat → Int64) → Int32 → Int64 → Int32 → Prop} {I : Nat → Nat → Int32} {J : Nat → Nat → Int64} {cn : Int32} {cm : Int64} {so : Int32} {a1 : Int64} (h : wMsize post I J cn cm so a1) : Met l yXM_size (.code yXM_size cXM_size 4 (some .int) :: lg_tbl) ({ frames := 1, cells := 0, slots := 0, locals := 22 } : Room) (va_Pc [.long a1] (fxB (mW D h0 ad cI cL (I, J, cn, cm, so)) D vwCl (mTy cI cL))) (va_Qi (fun (r : Int32) (u : mS) => post r u.1 u.2.1 u.2.2.1 u.2.2.2.1 u.2.2.2.2) (fxC (mW D h0 ad cI cL)) A) 0 0 A := by
  refine fx_start (by decide +kernel) (Nat.le_of_ble_eq_true rfl) ?_
  intro p e s m below meth c ls hx hb hr hml hown hts hlocks hnm hB hl
  exact sMsize_in ⟨hx, hb, hr, hml, hown, hts, hlocks, hB.2.1, hB.2.2, hD⟩ I J cn cm so a1 h _ _ ls hB.1 va_S.rf hl
def wMheld (post : Int32 → (Nat → Nat → Int32) → (Nat → Nat → Int64) → Int32 → Int64 → Int32 → Prop) (I : Nat → Nat → Int32) (J : Nat → Nat → Int64) (cn : Int32) (cm : Int64) (so : Int32) (a1 : Int32) : Prop := (wMisReplica (fun r1 I_1 J_1 cn_1 cm_1 so_1 => ((r1 = 0 → (post (-1) I_1 J_1 cn_1 cm_1 so_1)) ∧ (¬ r1 = 0 → (vp_in a1 4 ∧ (wMsize (fun r4 I_4 J_4 cn_4 cm_4 so_4 => (post r4 I_4 J_4 cn_4 cm_4 so_4)) I_1 J_1 cn_1 cm_1 so_1 (J_1 3 (Int32.toNatClampNeg a1))))))) I J cn cm so a1)
set_option maxRecDepth 100000 in
set_option maxHeartbeats 4000000 in
theorem sMheld_in {p : Program} {l : Launch} {e : Env} {s : State} {m : MethodId} {args : Array Value} {below : List Frame} {meth : Method} {c : Code} {D : va_G} {A : Nat → Prop} {h0 : Nat} {ad : Nat → Nat} {cI cL : ClassId} {post : Int32 → (Nat → Nat → Int32) → (Nat → Nat → Int64) → Int32 → Int64 → Int32 → Prop} (C0 : mCx p s m args meth c D A h0 ad cI cL cXM_held 2 (some .int)) : ∀ (I : Nat → Nat → Int32) (J : Nat → Nat → Int64) (cn : Int32) (cm : Int64) (so : Int32) (a1 : Int32), wMheld post I J cn cm so a1 → ∀ (H : Heap) (locs : List Loc) (ls : Array Slot), mW D h0 ad cI cL (I, J, cn, cm, so) H → va_S A s.heap H locs → lv_has ls 2 [(0, .ref h0), (1, .int a1)] → W p l e ({ frames := 2, cells := 0, slots := 0, locals := 45 } : Room) s m args below meth c H locs 0 0 (MQ below (va_Qi (fun (r : Int32) (u : mS) => post r u.1 u.2.1 u.2.2.1 u.2.2.2.1 u.2.2.2.2) (fxC (mW D h0 ad cI cL)) A) args s 0 0 A) (F0 m 0 ls []) := by
  obtain ⟨hx, hb, hr, hml, hown, hts, hlocks, hK, hN, hD⟩ := id C0
  intro I J cn cm so a1 h H locs ls hP hS hl
  replace h : (wMisReplica (fun r1 I_1 J_1 cn_1 cm_1 so_1 => ((r1 = 0 → (post (-1) I_1 J_1 cn_1 cm_1 so_1)) ∧ (¬ r1 = 0 → (vp_in a1 4 ∧ (wMsize (fun r4 I_4 J_4 cn_4 cm_4 so_4 => (post r4 I_4 J_4 cn_4 cm_4 so_4)) I_1 J_1 cn_1 cm_1 so_1 (J_1 3 (Int32.toNatClampNeg a1))))))) I J cn cm so a1) := h
  refine lv_iload_n hx hb dXM_held_0 rfl (lv_at hl 1 rfl) ?_
  refine va_calli (va_runS (As := [.int a1]) (rest := []) ⟨hx, hb, hml, hown, hts⟩ (cMisReplica hD h) (fx_cwS 1 hts gw_M_132 hdXM_isReplica ⟨Nat.le_of_ble_eq_true rfl, Nat.le_of_ble_eq_true rfl⟩) (fx_preS hP hK hN) rfl rfl hl.1 rfl (lv_room (Nat.le_of_ble_eq_true rfl)) dXM_held_1 ⟨Nat.le_of_ble_eq_true rfl, Nat.le_of_ble_eq_true rfl⟩) hS (fun _ _ q => q) (fun _ q => q) (fun r1 u t H locs ht hvm h hP hz hk hS => ?_)
  rw [fxC, ht] at hP
  obtain ⟨I_1, J_1, cn_1, cm_1, so_1⟩ := u
  dsimp only at h
  refine lv_if_eq (tgt := 19) hx hb dXM_held_4 (by decide) (fun c2 => ?_) (fun c2 => ?_)
  · replace h := h.1 c2
    refine lv_iconst (v := (-1)) hx hb dXM_held_19 (by decide) ?_
    exact W.iret hx hb hr (fun t ht hW => ⟨⟨_, (I_1, J_1, cn_1, cm_1, so_1), rfl, h, by rw [fxC, ht]; exact hP⟩, hS.F ht⟩) hS.2.2 dXM_held_20 hlocks
  · replace h := h.2 c2
    refine lv_aload_n hx hb dXM_held_7 rfl (lv_at hl 0 rfl) ?_
    refine mg_holds hx hb hown hts hK hP dXM_held_8 ?_
    refine lv_iload_n hx hb dXM_held_11 rfl (lv_at hl 1 rfl) ?_
    obtain ⟨h3, h⟩ := h
    refine ma_9 hx hb hK hP h3 dXM_held_12 ?_
    refine va_calli (va_runS (As := [.long (J_1 3 (Int32.toNatClampNeg a1))]) (rest := []) ⟨hx, hb, hml, hown, hts⟩ (cMsize hD h) (fx_cwS 1 hts gw_M_173 hdXM_size ⟨Nat.le_of_ble_eq_true rfl, Nat.le_of_ble_eq_true rfl⟩) (fx_preS hP hK hN) rfl rfl hl.1 rfl (lv_room (Nat.le_of_ble_eq_true rfl)) dXM_held_13 ⟨Nat.le_of_ble_eq_true rfl, Nat.le_of_ble_eq_true rfl⟩) hS (fun _ _ q => q) (fun _ q => q) (fun r4 u t H locs ht hvm h hP hz hk hS => ?_)
    rw [fxC, ht] at hP
    obtain ⟨I_4, J_4, cn_4, cm_4, so_4⟩ := u
    dsimp only at h
    refine lv_goto (tgt := 20) hx hb dXM_held_16 (by decide) ?_
    exact W.iret hx hb hr (fun t ht hW => ⟨⟨_, (I_4, J_4, cn_4, cm_4, so_4), rfl, h, by rw [fxC, ht]; exact hP⟩, hS.F ht⟩) hS.2.2 dXM_held_20 hlocks
set_option maxRecDepth 100000 in
set_option maxHeartbeats 4000000 in
theorem cMheld {l : Launch} {D : va_G} {A : Nat → Prop} {h0 : Nat} {ad : Nat → Nat} {cI cL : ClassId} (hD : mDs A h0 ad cI cL) {post : Int32 → (Nat → Nat → Int32) → (Nat → Nat → Int64) → Int32 → Int64 → Int32 → Prop} {I : Nat → Nat → Int32} {J : Nat → Nat → Int64} {cn : Int32} {cm : Int64} {so : Int32} {a1 : Int32} (h : wMheld post I J cn cm so a1) : Met l yXM_held (.code yXM_held cXM_held 2 (some .int) :: lg_tbl) ({ frames := 2, cells := 0, slots := 0, locals := 45 } : Room) (va_Pc [.ref h0, .int a1] (fxB (mW D h0 ad cI cL (I, J, cn, cm, so)) D vwCl (mTy cI cL))) (va_Qi (fun (r : Int32) (u : mS) => post r u.1 u.2.1 u.2.2.1 u.2.2.2.1 u.2.2.2.2) (fxC (mW D h0 ad cI cL)) A) 0 0 A := by
  refine fx_start (by decide +kernel) (Nat.le_of_ble_eq_true rfl) ?_
  intro p e s m below meth c ls hx hb hr hml hown hts hlocks hnm hB hl
  exact sMheld_in ⟨hx, hb, hr, hml, hown, hts, hlocks, hB.2.1, hB.2.2, hD⟩ I J cn cm so a1 h _ _ ls hB.1 va_S.rf hl
def wMwaiting (post : Int32 → (Nat → Nat → Int32) → (Nat → Nat → Int64) → Int32 → Int64 → Int32 → Prop) (I : Nat → Nat → Int32) (J : Nat → Nat → Int64) (cn : Int32) (cm : Int64) (so : Int32) (a1 : Int32) : Prop := (wMisReplica (fun r1 I_1 J_1 cn_1 cm_1 so_1 => ((r1 = 0 → (post (-1) I_1 J_1 cn_1 cm_1 so_1)) ∧ (¬ r1 = 0 → (vp_in a1 4 ∧ (post (I_1 6 (Int32.toNatClampNeg a1)) I_1 J_1 cn_1 cm_1 so_1))))) I J cn cm so a1)
set_option maxRecDepth 100000 in
set_option maxHeartbeats 4000000 in
theorem sMwaiting_in {p : Program} {l : Launch} {e : Env} {s : State} {m : MethodId} {args : Array Value} {below : List Frame} {meth : Method} {c : Code} {D : va_G} {A : Nat → Prop} {h0 : Nat} {ad : Nat → Nat} {cI cL : ClassId} {post : Int32 → (Nat → Nat → Int32) → (Nat → Nat → Int64) → Int32 → Int64 → Int32 → Prop} (C0 : mCx p s m args meth c D A h0 ad cI cL cXM_waiting 2 (some .int)) : ∀ (I : Nat → Nat → Int32) (J : Nat → Nat → Int64) (cn : Int32) (cm : Int64) (so : Int32) (a1 : Int32), wMwaiting post I J cn cm so a1 → ∀ (H : Heap) (locs : List Loc) (ls : Array Slot), mW D h0 ad cI cL (I, J, cn, cm, so) H → va_S A s.heap H locs → lv_has ls 2 [(0, .ref h0), (1, .int a1)] → W p l e ({ frames := 1, cells := 0, slots := 0, locals := 20 } : Room) s m args below meth c H locs 0 0 (MQ below (va_Qi (fun (r : Int32) (u : mS) => post r u.1 u.2.1 u.2.2.1 u.2.2.2.1 u.2.2.2.2) (fxC (mW D h0 ad cI cL)) A) args s 0 0 A) (F0 m 0 ls []) := by
  obtain ⟨hx, hb, hr, hml, hown, hts, hlocks, hK, hN, hD⟩ := id C0
  intro I J cn cm so a1 h H locs ls hP hS hl
  replace h : (wMisReplica (fun r1 I_1 J_1 cn_1 cm_1 so_1 => ((r1 = 0 → (post (-1) I_1 J_1 cn_1 cm_1 so_1)) ∧ (¬ r1 = 0 → (vp_in a1 4 ∧ (post (I_1 6 (Int32.toNatClampNeg a1)) I_1 J_1 cn_1 cm_1 so_1))))) I J cn cm so a1) := h
  refine lv_iload_n hx hb dXM_waiting_0 rfl (lv_at hl 1 rfl) ?_
  refine va_calli (va_runS (As := [.int a1]) (rest := []) ⟨hx, hb, hml, hown, hts⟩ (cMisReplica hD h) (fx_cwS 1 hts gw_M_132 hdXM_isReplica ⟨Nat.le_of_ble_eq_true rfl, Nat.le_of_ble_eq_true rfl⟩) (fx_preS hP hK hN) rfl rfl hl.1 rfl (lv_room (Nat.le_of_ble_eq_true rfl)) dXM_waiting_1 ⟨Nat.le_of_ble_eq_true rfl, Nat.le_of_ble_eq_true rfl⟩) hS (fun _ _ q => q) (fun _ q => q) (fun r1 u t H locs ht hvm h hP hz hk hS => ?_)
  rw [fxC, ht] at hP
  obtain ⟨I_1, J_1, cn_1, cm_1, so_1⟩ := u
  dsimp only at h
  refine lv_if_eq (tgt := 16) hx hb dXM_waiting_4 (by decide) (fun c2 => ?_) (fun c2 => ?_)
  · replace h := h.1 c2
    refine lv_iconst (v := (-1)) hx hb dXM_waiting_16 (by decide) ?_
    exact W.iret hx hb hr (fun t ht hW => ⟨⟨_, (I_1, J_1, cn_1, cm_1, so_1), rfl, h, by rw [fxC, ht]; exact hP⟩, hS.F ht⟩) hS.2.2 dXM_waiting_17 hlocks
  · replace h := h.2 c2
    refine lv_aload_n hx hb dXM_waiting_7 rfl (lv_at hl 0 rfl) ?_
    refine mg_waits hx hb hown hts hK hP dXM_waiting_8 ?_
    refine lv_iload_n hx hb dXM_waiting_11 rfl (lv_at hl 1 rfl) ?_
    obtain ⟨h3, h⟩ := h
    refine ma_10 hx hb hK hP h3 dXM_waiting_12 ?_
    refine lv_goto (tgt := 17) hx hb dXM_waiting_13 (by decide) ?_
    exact W.iret hx hb hr (fun t ht hW => ⟨⟨_, (I_1, J_1, cn_1, cm_1, so_1), rfl, h, by rw [fxC, ht]; exact hP⟩, hS.F ht⟩) hS.2.2 dXM_waiting_17 hlocks
set_option maxRecDepth 100000 in
set_option maxHeartbeats 4000000 in
theorem cMwaiting {l : Launch} {D : va_G} {A : Nat → Prop} {h0 : Nat} {ad : Nat → Nat} {cI cL : ClassId} (hD : mDs A h0 ad cI cL) {post : Int32 → (Nat → Nat → Int32) → (Nat → Nat → Int64) → Int32 → Int64 → Int32 → Prop} {I : Nat → Nat → Int32} {J : Nat → Nat → Int64} {cn : Int32} {cm : Int64} {so : Int32} {a1 : Int32} (h : wMwaiting post I J cn cm so a1) : Met l yXM_waiting (.code yXM_waiting cXM_waiting 2 (some .int) :: lg_tbl) ({ frames := 1, cells := 0, slots := 0, locals := 20 } : Room) (va_Pc [.ref h0, .int a1] (fxB (mW D h0 ad cI cL (I, J, cn, cm, so)) D vwCl (mTy cI cL))) (va_Qi (fun (r : Int32) (u : mS) => post r u.1 u.2.1 u.2.2.1 u.2.2.2.1 u.2.2.2.2) (fxC (mW D h0 ad cI cL)) A) 0 0 A := by
  refine fx_start (by decide +kernel) (Nat.le_of_ble_eq_true rfl) ?_
  intro p e s m below meth c ls hx hb hr hml hown hts hlocks hnm hB hl
  exact sMwaiting_in ⟨hx, hb, hr, hml, hown, hts, hlocks, hB.2.1, hB.2.2, hD⟩ I J cn cm so a1 h _ _ ls hB.1 va_S.rf hl
def wMhas (post : Int32 → (Nat → Nat → Int32) → (Nat → Nat → Int64) → Int32 → Int64 → Int32 → Prop) (I : Nat → Nat → Int32) (J : Nat → Nat → Int64) (cn : Int32) (cm : Int64) (so : Int32) (a1 : Int32) (a2 : Int64) : Prop := (wMisReplica (fun r1 I_1 J_1 cn_1 cm_1 so_1 => ((r1 = 0 → (post 0 I_1 J_1 cn_1 cm_1 so_1)) ∧ (¬ r1 = 0 → (vp_in a1 4 ∧ (wMfind (fun r4 I_4 J_4 cn_4 cm_4 so_4 => (wMin (fun r5 I_5 J_5 cn_5 cm_5 so_5 => ((r5 = 0 → (post 0 I_5 J_5 cn_5 cm_5 so_5)) ∧ (¬ r5 = 0 → (post 1 I_5 J_5 cn_5 cm_5 so_5)))) I_4 J_4 cn_4 cm_4 so_4 (J_1 3 (Int32.toNatClampNeg a1)) r4)) I_1 J_1 cn_1 cm_1 so_1 a2))))) I J cn cm so a1)
set_option maxRecDepth 100000 in
set_option maxHeartbeats 4000000 in
theorem sMhas_in {p : Program} {l : Launch} {e : Env} {s : State} {m : MethodId} {args : Array Value} {below : List Frame} {meth : Method} {c : Code} {D : va_G} {A : Nat → Prop} {h0 : Nat} {ad : Nat → Nat} {cI cL : ClassId} {post : Int32 → (Nat → Nat → Int32) → (Nat → Nat → Int64) → Int32 → Int64 → Int32 → Prop} (C0 : mCx p s m args meth c D A h0 ad cI cL cXM_has 4 (some .boolean)) : ∀ (I : Nat → Nat → Int32) (J : Nat → Nat → Int64) (cn : Int32) (cm : Int64) (so : Int32) (a1 : Int32) (a2 : Int64), wMhas post I J cn cm so a1 a2 → ∀ (H : Heap) (locs : List Loc) (ls : Array Slot), mW D h0 ad cI cL (I, J, cn, cm, so) H → va_S A s.heap H locs → lv_has ls 4 [(0, .ref h0), (1, .int a1), (2, .long a2)] → W p l e ({ frames := 1, cells := 0, slots := 0, locals := 24 } : Room) s m args below meth c H locs 0 0 (MQ below (va_Qi (fun (r : Int32) (u : mS) => post r u.1 u.2.1 u.2.2.1 u.2.2.2.1 u.2.2.2.2) (fxC (mW D h0 ad cI cL)) A) args s 0 0 A) (F0 m 0 ls []) := by
  obtain ⟨hx, hb, hr, hml, hown, hts, hlocks, hK, hN, hD⟩ := id C0
  intro I J cn cm so a1 a2 h H locs ls hP hS hl
  replace h : (wMisReplica (fun r1 I_1 J_1 cn_1 cm_1 so_1 => ((r1 = 0 → (post 0 I_1 J_1 cn_1 cm_1 so_1)) ∧ (¬ r1 = 0 → (vp_in a1 4 ∧ (wMfind (fun r4 I_4 J_4 cn_4 cm_4 so_4 => (wMin (fun r5 I_5 J_5 cn_5 cm_5 so_5 => ((r5 = 0 → (post 0 I_5 J_5 cn_5 cm_5 so_5)) ∧ (¬ r5 = 0 → (post 1 I_5 J_5 cn_5 cm_5 so_5)))) I_4 J_4 cn_4 cm_4 so_4 (J_1 3 (Int32.toNatClampNeg a1)) r4)) I_1 J_1 cn_1 cm_1 so_1 a2))))) I J cn cm so a1) := h
  refine lv_iload_n hx hb dXM_has_0 rfl (lv_at hl 1 rfl) ?_
  refine va_calli (va_runS (As := [.int a1]) (rest := []) ⟨hx, hb, hml, hown, hts⟩ (cMisReplica hD h) (fx_cwS 1 hts gw_M_132 hdXM_isReplica ⟨Nat.le_of_ble_eq_true rfl, Nat.le_of_ble_eq_true rfl⟩) (fx_preS hP hK hN) rfl rfl hl.1 rfl (lv_room (Nat.le_of_ble_eq_true rfl)) dXM_has_1 ⟨Nat.le_of_ble_eq_true rfl, Nat.le_of_ble_eq_true rfl⟩) hS (fun _ _ q => q) (fun _ q => q) (fun r1 u t H locs ht hvm h hP hz hk hS => ?_)
  rw [fxC, ht] at hP
  obtain ⟨I_1, J_1, cn_1, cm_1, so_1⟩ := u
  dsimp only at h
  refine lv_if_eq (tgt := 28) hx hb dXM_has_4 (by decide) (fun c2 => ?_) (fun c2 => ?_)
  · replace h := h.1 c2
    refine lv_iconst (v := 0) hx hb dXM_has_28 (by decide) ?_
    exact W.zret hx hb hr rfl (fun t ht hW => ⟨⟨_, (I_1, J_1, cn_1, cm_1, so_1), rfl, h, by rw [fxC, ht]; exact hP⟩, hS.F ht⟩) hS.2.2 dXM_has_29 hlocks
  · replace h := h.2 c2
    refine lv_aload_n hx hb dXM_has_7 rfl (lv_at hl 0 rfl) ?_
    refine mg_holds hx hb hown hts hK hP dXM_has_8 ?_
    refine lv_iload_n hx hb dXM_has_11 rfl (lv_at hl 1 rfl) ?_
    obtain ⟨h3, h⟩ := h
    refine ma_9 hx hb hK hP h3 dXM_has_12 ?_
    refine lv_aload_n hx hb dXM_has_13 rfl (lv_at hl 0 rfl) ?_
    refine lv_lload_n hx hb dXM_has_14 rfl (lv_at hl 2 rfl) ?_
    refine va_calli (va_runV (As := [.long a2]) (rest := [.long (J_1 3 (Int32.toNatClampNeg a1))]) ⟨hx, hb, hml, hown, hts⟩ (cMfind hD h) (fx_cwV 1 hts gw_M_84 hdXM_find ⟨Nat.le_of_ble_eq_true rfl, Nat.le_of_ble_eq_true rfl⟩) (fx_preV (m_recv hK hP) hP hK hN) rfl rfl hl.1 rfl (lv_room (Nat.le_of_ble_eq_true rfl)) dXM_has_15 ⟨Nat.le_of_ble_eq_true rfl, Nat.le_of_ble_eq_true rfl⟩) hS (fun _ _ q => q) (fun _ q => q) (fun r4 u t H locs ht hvm h hP hz hk hS => ?_)
    rw [fxC, ht] at hP
    obtain ⟨I_4, J_4, cn_4, cm_4, so_4⟩ := u
    dsimp only at h
    refine va_calli (va_runS (As := [.long (J_1 3 (Int32.toNatClampNeg a1)), .int r4]) (rest := []) ⟨hx, hb, hml, hown, hts⟩ (cMin hD h) (fx_cwS 2 hts gw_M_88 hdXM_in ⟨Nat.le_of_ble_eq_true rfl, Nat.le_of_ble_eq_true rfl⟩) (fx_preS hP hK hN) rfl rfl hl.1 rfl (lv_room (Nat.le_of_ble_eq_true rfl)) dXM_has_18 ⟨Nat.le_of_ble_eq_true rfl, Nat.le_of_ble_eq_true rfl⟩) hS (fun _ _ q => q) (fun _ q => q) (fun r5 u t H locs ht hvm h hP hz hk hS => ?_)
    rw [fxC, ht] at hP
    obtain ⟨I_5, J_5, cn_5, cm_5, so_5⟩ := u
    dsimp only at h
    refine lv_if_eq (tgt := 28) hx hb dXM_has_21 (by decide) (fun c6 => ?_) (fun c6 => ?_)
    · replace h := h.1 c6
      refine lv_iconst (v := 0) hx hb dXM_has_28 (by decide) ?_
      exact W.zret hx hb hr rfl (fun t ht hW => ⟨⟨_, (I_5, J_5, cn_5, cm_5, so_5), rfl, h, by rw [fxC, ht]; exact hP⟩, hS.F ht⟩) hS.2.2 dXM_has_29 hlocks
    · replace h := h.2 c6
      refine lv_iconst (v := 1) hx hb dXM_has_24 (by decide) ?_
      refine lv_goto (tgt := 29) hx hb dXM_has_25 (by decide) ?_
      exact W.zret hx hb hr rfl (fun t ht hW => ⟨⟨_, (I_5, J_5, cn_5, cm_5, so_5), rfl, h, by rw [fxC, ht]; exact hP⟩, hS.F ht⟩) hS.2.2 dXM_has_29 hlocks
set_option maxRecDepth 100000 in
set_option maxHeartbeats 4000000 in
theorem cMhas {l : Launch} {D : va_G} {A : Nat → Prop} {h0 : Nat} {ad : Nat → Nat} {cI cL : ClassId} (hD : mDs A h0 ad cI cL) {post : Int32 → (Nat → Nat → Int32) → (Nat → Nat → Int64) → Int32 → Int64 → Int32 → Prop} {I : Nat → Nat → Int32} {J : Nat → Nat → Int64} {cn : Int32} {cm : Int64} {so : Int32} {a1 : Int32} {a2 : Int64} (h : wMhas post I J cn cm so a1 a2) : Met l yXM_has (.code yXM_has cXM_has 4 (some .boolean) :: lg_tbl) ({ frames := 1, cells := 0, slots := 0, locals := 24 } : Room) (va_Pc [.ref h0, .int a1, .long a2] (fxB (mW D h0 ad cI cL (I, J, cn, cm, so)) D vwCl (mTy cI cL))) (va_Qi (fun (r : Int32) (u : mS) => post r u.1 u.2.1 u.2.2.1 u.2.2.2.1 u.2.2.2.2) (fxC (mW D h0 ad cI cL)) A) 0 0 A := by
  refine fx_start (by decide +kernel) (Nat.le_of_ble_eq_true rfl) ?_
  intro p e s m below meth c ls hx hb hr hml hown hts hlocks hnm hB hl
  exact sMhas_in ⟨hx, hb, hr, hml, hown, hts, hlocks, hB.2.1, hB.2.2, hD⟩ I J cn cm so a1 a2 h _ _ ls hB.1 va_S.rf hl
def wMhashAt (post : Int64 → (Nat → Nat → Int32) → (Nat → Nat → Int64) → Int32 → Int64 → Int32 → Prop) (I : Nat → Nat → Int32) (J : Nat → Nat → Int64) (cn : Int32) (cm : Int64) (so : Int32) (a1 : Int32) (a2 : Int32) : Prop := (wMplaceOf (fun r1 I_1 J_1 cn_1 cm_1 so_1 => ((0 ≤ r1 → (vp_in r1 40 ∧ (post (J_1 0 (Int32.toNatClampNeg r1)) I_1 J_1 cn_1 cm_1 so_1))) ∧ (¬ 0 ≤ r1 → (post 0 I_1 J_1 cn_1 cm_1 so_1)))) I J cn cm so a1 a2)
set_option maxRecDepth 100000 in
set_option maxHeartbeats 4000000 in
theorem sMhashAt_in {p : Program} {l : Launch} {e : Env} {s : State} {m : MethodId} {args : Array Value} {below : List Frame} {meth : Method} {c : Code} {D : va_G} {A : Nat → Prop} {h0 : Nat} {ad : Nat → Nat} {cI cL : ClassId} {post : Int64 → (Nat → Nat → Int32) → (Nat → Nat → Int64) → Int32 → Int64 → Int32 → Prop} (C0 : mCx p s m args meth c D A h0 ad cI cL cXM_hashAt 4 (some .long)) : ∀ (I : Nat → Nat → Int32) (J : Nat → Nat → Int64) (cn : Int32) (cm : Int64) (so : Int32) (a1 : Int32) (a2 : Int32), wMhashAt post I J cn cm so a1 a2 → ∀ (H : Heap) (locs : List Loc) (ls : Array Slot), mW D h0 ad cI cL (I, J, cn, cm, so) H → va_S A s.heap H locs → lv_has ls 4 [(0, .ref h0), (1, .int a1), (2, .int a2)] → W p l e ({ frames := 3, cells := 0, slots := 0, locals := 70 } : Room) s m args below meth c H locs 0 0 (MQ below (va_Ql (fun (r : Int64) (u : mS) => post r u.1 u.2.1 u.2.2.1 u.2.2.2.1 u.2.2.2.2) (fxC (mW D h0 ad cI cL)) A) args s 0 0 A) (F0 m 0 ls []) := by
  obtain ⟨hx, hb, hr, hml, hown, hts, hlocks, hK, hN, hD⟩ := id C0
  intro I J cn cm so a1 a2 h H locs ls hP hS hl
  replace h : (wMplaceOf (fun r1 I_1 J_1 cn_1 cm_1 so_1 => ((0 ≤ r1 → (vp_in r1 40 ∧ (post (J_1 0 (Int32.toNatClampNeg r1)) I_1 J_1 cn_1 cm_1 so_1))) ∧ (¬ 0 ≤ r1 → (post 0 I_1 J_1 cn_1 cm_1 so_1)))) I J cn cm so a1 a2) := h
  refine lv_aload_n hx hb dXM_hashAt_0 rfl (lv_at hl 0 rfl) ?_
  refine lv_iload_n hx hb dXM_hashAt_1 rfl (lv_at hl 1 rfl) ?_
  refine lv_iload_n hx hb dXM_hashAt_2 rfl (lv_at hl 2 rfl) ?_
  refine va_calli (va_runV (As := [.int a1, .int a2]) (rest := []) ⟨hx, hb, hml, hown, hts⟩ (cMplaceOf hD h) (fx_cwV 2 hts gw_M_176 hdXM_placeOf ⟨Nat.le_of_ble_eq_true rfl, Nat.le_of_ble_eq_true rfl⟩) (fx_preV (m_recv hK hP) hP hK hN) rfl rfl hl.1 rfl (lv_room (Nat.le_of_ble_eq_true rfl)) dXM_hashAt_3 ⟨Nat.le_of_ble_eq_true rfl, Nat.le_of_ble_eq_true rfl⟩) hS (fun _ _ q => q) (fun _ q => q) (fun r1 u t H locs ht hvm h hP hz hk hS => ?_)
  rw [fxC, ht] at hP
  obtain ⟨I_1, J_1, cn_1, cm_1, so_1⟩ := u
  dsimp only at h
  refine lv_istore_n (lv' := [(3, .int r1), (0, .ref h0), (1, .int a1), (2, .int a2)]) hx hb dXM_hashAt_6 rfl hl (by decide) rfl (fun ls hl => ?_)
  refine lv_iload_n hx hb dXM_hashAt_7 rfl (lv_at hl 0 rfl) ?_
  refine lv_if_ge (tgt := 15) hx hb dXM_hashAt_8 (by decide) (fun c2 => ?_) (fun c2 => ?_)
  · replace h := h.1 c2
    refine lv_aload_n hx hb dXM_hashAt_15 rfl (lv_at hl 1 rfl) ?_
    refine mg_hash hx hb hown hts hK hP dXM_hashAt_16 ?_
    refine lv_iload_n hx hb dXM_hashAt_19 rfl (lv_at hl 0 rfl) ?_
    obtain ⟨h3, h⟩ := h
    refine ma_0 hx hb hK hP h3 dXM_hashAt_20 ?_
    exact W.lret hx hb hr (fun t ht hW => ⟨⟨_, (I_1, J_1, cn_1, cm_1, so_1), rfl, h, by rw [fxC, ht]; exact hP⟩, hS.F ht⟩) hS.2.2 dXM_hashAt_21 hlocks
  · replace h := h.2 c2
    refine lv_lconst (v := 0) hx hb dXM_hashAt_11 (by decide) ?_
    refine lv_goto (tgt := 21) hx hb dXM_hashAt_12 (by decide) ?_
    exact W.lret hx hb hr (fun t ht hW => ⟨⟨_, (I_1, J_1, cn_1, cm_1, so_1), rfl, h, by rw [fxC, ht]; exact hP⟩, hS.F ht⟩) hS.2.2 dXM_hashAt_21 hlocks
set_option maxRecDepth 100000 in
set_option maxHeartbeats 4000000 in
theorem cMhashAt {l : Launch} {D : va_G} {A : Nat → Prop} {h0 : Nat} {ad : Nat → Nat} {cI cL : ClassId} (hD : mDs A h0 ad cI cL) {post : Int64 → (Nat → Nat → Int32) → (Nat → Nat → Int64) → Int32 → Int64 → Int32 → Prop} {I : Nat → Nat → Int32} {J : Nat → Nat → Int64} {cn : Int32} {cm : Int64} {so : Int32} {a1 : Int32} {a2 : Int32} (h : wMhashAt post I J cn cm so a1 a2) : Met l yXM_hashAt (.code yXM_hashAt cXM_hashAt 4 (some .long) :: lg_tbl) ({ frames := 3, cells := 0, slots := 0, locals := 70 } : Room) (va_Pc [.ref h0, .int a1, .int a2] (fxB (mW D h0 ad cI cL (I, J, cn, cm, so)) D vwCl (mTy cI cL))) (va_Ql (fun (r : Int64) (u : mS) => post r u.1 u.2.1 u.2.2.1 u.2.2.2.1 u.2.2.2.2) (fxC (mW D h0 ad cI cL)) A) 0 0 A := by
  refine fx_start (by decide +kernel) (Nat.le_of_ble_eq_true rfl) ?_
  intro p e s m below meth c ls hx hb hr hml hown hts hlocks hnm hB hl
  exact sMhashAt_in ⟨hx, hb, hr, hml, hown, hts, hlocks, hB.2.1, hB.2.2, hD⟩ I J cn cm so a1 a2 h _ _ ls hB.1 va_S.rf hl
def wMabout (post : Int32 → (Nat → Nat → Int32) → (Nat → Nat → Int64) → Int32 → Int64 → Int32 → Prop) (I : Nat → Nat → Int32) (J : Nat → Nat → Int64) (cn : Int32) (cm : Int64) (so : Int32) (a1 : Int32) (a2 : Int32) (a3 : Int32) : Prop := (wMplaceOf (fun r1 I_1 J_1 cn_1 cm_1 so_1 => ((r1 < 0 → (post (-1) I_1 J_1 cn_1 cm_1 so_1)) ∧ (¬ r1 < 0 → ((a3 < 0 → (post (-1) I_1 J_1 cn_1 cm_1 so_1)) ∧ (¬ a3 < 0 → ((a3 ≤ 5 → ((2 ≤ a3 → ((4 ≤ a3 → ((¬ a3 = 4 → (vp_in r1 40 ∧ (post (I_1 5 (Int32.toNatClampNeg r1)) I_1 J_1 cn_1 cm_1 so_1))) ∧ (a3 = 4 → (vp_in r1 40 ∧ (post (I_1 4 (Int32.toNatClampNeg r1)) I_1 J_1 cn_1 cm_1 so_1))))) ∧ (¬ 4 ≤ a3 → ((¬ a3 = 2 → (vp_in r1 40 ∧ (post (I_1 3 (Int32.toNatClampNeg r1)) I_1 J_1 cn_1 cm_1 so_1))) ∧ (a3 = 2 → (vp_in r1 40 ∧ (post (I_1 2 (Int32.toNatClampNeg r1)) I_1 J_1 cn_1 cm_1 so_1))))))) ∧ (¬ 2 ≤ a3 → ((¬ a3 = 0 → (vp_in r1 40 ∧ (post (I_1 1 (Int32.toNatClampNeg r1)) I_1 J_1 cn_1 cm_1 so_1))) ∧ (a3 = 0 → (vp_in r1 40 ∧ (post (I_1 0 (Int32.toNatClampNeg r1)) I_1 J_1 cn_1 cm_1 so_1))))))) ∧ (¬ a3 ≤ 5 → (post (-1) I_1 J_1 cn_1 cm_1 so_1)))))))) I J cn cm so a1 a2)
set_option maxRecDepth 100000 in
set_option maxHeartbeats 4000000 in
theorem sMabout_in {p : Program} {l : Launch} {e : Env} {s : State} {m : MethodId} {args : Array Value} {below : List Frame} {meth : Method} {c : Code} {D : va_G} {A : Nat → Prop} {h0 : Nat} {ad : Nat → Nat} {cI cL : ClassId} {post : Int32 → (Nat → Nat → Int32) → (Nat → Nat → Int64) → Int32 → Int64 → Int32 → Prop} (C0 : mCx p s m args meth c D A h0 ad cI cL cXM_about 5 (some .int)) : ∀ (I : Nat → Nat → Int32) (J : Nat → Nat → Int64) (cn : Int32) (cm : Int64) (so : Int32) (a1 : Int32) (a2 : Int32) (a3 : Int32), wMabout post I J cn cm so a1 a2 a3 → ∀ (H : Heap) (locs : List Loc) (ls : Array Slot), mW D h0 ad cI cL (I, J, cn, cm, so) H → va_S A s.heap H locs → lv_has ls 5 [(0, .ref h0), (1, .int a1), (2, .int a2), (3, .int a3)] → W p l e ({ frames := 3, cells := 0, slots := 0, locals := 70 } : Room) s m args below meth c H locs 0 0 (MQ below (va_Qi (fun (r : Int32) (u : mS) => post r u.1 u.2.1 u.2.2.1 u.2.2.2.1 u.2.2.2.2) (fxC (mW D h0 ad cI cL)) A) args s 0 0 A) (F0 m 0 ls []) := by
  obtain ⟨hx, hb, hr, hml, hown, hts, hlocks, hK, hN, hD⟩ := id C0
  intro I J cn cm so a1 a2 a3 h H locs ls hP hS hl
  replace h : (wMplaceOf (fun r1 I_1 J_1 cn_1 cm_1 so_1 => ((r1 < 0 → (post (-1) I_1 J_1 cn_1 cm_1 so_1)) ∧ (¬ r1 < 0 → ((a3 < 0 → (post (-1) I_1 J_1 cn_1 cm_1 so_1)) ∧ (¬ a3 < 0 → ((a3 ≤ 5 → ((2 ≤ a3 → ((4 ≤ a3 → ((¬ a3 = 4 → (vp_in r1 40 ∧ (post (I_1 5 (Int32.toNatClampNeg r1)) I_1 J_1 cn_1 cm_1 so_1))) ∧ (a3 = 4 → (vp_in r1 40 ∧ (post (I_1 4 (Int32.toNatClampNeg r1)) I_1 J_1 cn_1 cm_1 so_1))))) ∧ (¬ 4 ≤ a3 → ((¬ a3 = 2 → (vp_in r1 40 ∧ (post (I_1 3 (Int32.toNatClampNeg r1)) I_1 J_1 cn_1 cm_1 so_1))) ∧ (a3 = 2 → (vp_in r1 40 ∧ (post (I_1 2 (Int32.toNatClampNeg r1)) I_1 J_1 cn_1 cm_1 so_1))))))) ∧ (¬ 2 ≤ a3 → ((¬ a3 = 0 → (vp_in r1 40 ∧ (post (I_1 1 (Int32.toNatClampNeg r1)) I_1 J_1 cn_1 cm_1 so_1))) ∧ (a3 = 0 → (vp_in r1 40 ∧ (post (I_1 0 (Int32.toNatClampNeg r1)) I_1 J_1 cn_1 cm_1 so_1))))))) ∧ (¬ a3 ≤ 5 → (post (-1) I_1 J_1 cn_1 cm_1 so_1)))))))) I J cn cm so a1 a2) := h
  refine lv_aload_n hx hb dXM_about_0 rfl (lv_at hl 0 rfl) ?_
  refine lv_iload_n hx hb dXM_about_1 rfl (lv_at hl 1 rfl) ?_
  refine lv_iload_n hx hb dXM_about_2 rfl (lv_at hl 2 rfl) ?_
  refine va_calli (va_runV (As := [.int a1, .int a2]) (rest := []) ⟨hx, hb, hml, hown, hts⟩ (cMplaceOf hD h) (fx_cwV 2 hts gw_M_176 hdXM_placeOf ⟨Nat.le_of_ble_eq_true rfl, Nat.le_of_ble_eq_true rfl⟩) (fx_preV (m_recv hK hP) hP hK hN) rfl rfl hl.1 rfl (lv_room (Nat.le_of_ble_eq_true rfl)) dXM_about_3 ⟨Nat.le_of_ble_eq_true rfl, Nat.le_of_ble_eq_true rfl⟩) hS (fun _ _ q => q) (fun _ q => q) (fun r1 u t H locs ht hvm h hP hz hk hS => ?_)
  rw [fxC, ht] at hP
  obtain ⟨I_1, J_1, cn_1, cm_1, so_1⟩ := u
  dsimp only at h
  refine lv_istore (lv' := [(4, .int r1), (0, .ref h0), (1, .int a1), (2, .int a2), (3, .int a3)]) hx hb dXM_about_6 hl (by decide) rfl (fun ls hl => ?_)
  refine lv_iload hx hb dXM_about_8 (lv_at hl 0 rfl) ?_
  refine lv_if_lt (tgt := 22) hx hb dXM_about_10 (by decide) (fun c2 => ?_) (fun c2 => ?_)
  · replace h := h.1 c2
    refine lv_iconst (v := (-1)) hx hb dXM_about_22 (by decide) ?_
    exact W.iret hx hb hr (fun t ht hW => ⟨⟨_, (I_1, J_1, cn_1, cm_1, so_1), rfl, h, by rw [fxC, ht]; exact hP⟩, hS.F ht⟩) hS.2.2 dXM_about_23 hlocks
  · replace h := h.2 c2
    refine lv_iload_n hx hb dXM_about_13 rfl (lv_at hl 4 rfl) ?_
    refine lv_if_lt (tgt := 22) hx hb dXM_about_14 (by decide) (fun c3 => ?_) (fun c3 => ?_)
    · replace h := h.1 c3
      refine lv_iconst (v := (-1)) hx hb dXM_about_22 (by decide) ?_
      exact W.iret hx hb hr (fun t ht hW => ⟨⟨_, (I_1, J_1, cn_1, cm_1, so_1), rfl, h, by rw [fxC, ht]; exact hP⟩, hS.F ht⟩) hS.2.2 dXM_about_23 hlocks
    · replace h := h.2 c3
      refine lv_iload_n hx hb dXM_about_17 rfl (lv_at hl 4 rfl) ?_
      refine lv_iconst (v := 5) hx hb dXM_about_18 (by decide) ?_
      refine lv_icmp_le (tgt := 24) hx hb dXM_about_19 (by decide) (fun c4 => ?_) (fun c4 => ?_)
      · replace h := h.1 c4
        refine lv_iload_n hx hb dXM_about_24 rfl (lv_at hl 4 rfl) ?_
        refine lv_iconst (v := 2) hx hb dXM_about_25 (by decide) ?_
        refine lv_icmp_ge (tgt := 51) hx hb dXM_about_26 (by decide) (fun c5 => ?_) (fun c5 => ?_)
        · replace h := h.1 c5
          refine lv_iload_n hx hb dXM_about_51 rfl (lv_at hl 4 rfl) ?_
          refine lv_iconst (v := 4) hx hb dXM_about_52 (by decide) ?_
          refine lv_icmp_ge (tgt := 79) hx hb dXM_about_53 (by decide) (fun c6 => ?_) (fun c6 => ?_)
          · replace h := h.1 c6
            refine lv_iload_n hx hb dXM_about_79 rfl (lv_at hl 4 rfl) ?_
            refine lv_iconst (v := 4) hx hb dXM_about_80 (by decide) ?_
            refine lv_icmp_ne (tgt := 94) hx hb dXM_about_81 (by decide) (fun c7 => ?_) (fun c7 => ?_)
            · replace h := h.1 c7
              refine lv_aload_n hx hb dXM_about_94 rfl (lv_at hl 1 rfl) ?_
              refine mg_depth hx hb hown hts hK hP dXM_about_95 ?_
              refine lv_iload hx hb dXM_about_98 (lv_at hl 0 rfl) ?_
              obtain ⟨h8, h⟩ := h
              refine ma_8 hx hb hK hP h8 dXM_about_100 ?_
              exact W.iret hx hb hr (fun t ht hW => ⟨⟨_, (I_1, J_1, cn_1, cm_1, so_1), rfl, h, by rw [fxC, ht]; exact hP⟩, hS.F ht⟩) hS.2.2 dXM_about_101 hlocks
            · replace h := h.2 c7
              refine lv_aload_n hx hb dXM_about_84 rfl (lv_at hl 1 rfl) ?_
              refine mg_links hx hb hown hts hK hP dXM_about_85 ?_
              refine lv_iload hx hb dXM_about_88 (lv_at hl 0 rfl) ?_
              obtain ⟨h9, h⟩ := h
              refine ma_5 hx hb hK hP h9 dXM_about_90 ?_
              refine lv_goto (tgt := 101) hx hb dXM_about_91 (by decide) ?_
              exact W.iret hx hb hr (fun t ht hW => ⟨⟨_, (I_1, J_1, cn_1, cm_1, so_1), rfl, h, by rw [fxC, ht]; exact hP⟩, hS.F ht⟩) hS.2.2 dXM_about_101 hlocks
          · replace h := h.2 c6
            refine lv_iload_n hx hb dXM_about_56 rfl (lv_at hl 4 rfl) ?_
            refine lv_iconst (v := 2) hx hb dXM_about_57 (by decide) ?_
            refine lv_icmp_ne (tgt := 71) hx hb dXM_about_58 (by decide) (fun c10 => ?_) (fun c10 => ?_)
            · replace h := h.1 c10
              refine lv_aload_n hx hb dXM_about_71 rfl (lv_at hl 1 rfl) ?_
              refine mg_value hx hb hown hts hK hP dXM_about_72 ?_
              refine lv_iload hx hb dXM_about_75 (lv_at hl 0 rfl) ?_
              obtain ⟨h11, h⟩ := h
              refine ma_4 hx hb hK hP h11 dXM_about_77 ?_
              exact W.iret hx hb hr (fun t ht hW => ⟨⟨_, (I_1, J_1, cn_1, cm_1, so_1), rfl, h, by rw [fxC, ht]; exact hP⟩, hS.F ht⟩) hS.2.2 dXM_about_78 hlocks
            · replace h := h.2 c10
              refine lv_aload_n hx hb dXM_about_61 rfl (lv_at hl 1 rfl) ?_
              refine mg_key hx hb hown hts hK hP dXM_about_62 ?_
              refine lv_iload hx hb dXM_about_65 (lv_at hl 0 rfl) ?_
              obtain ⟨h12, h⟩ := h
              refine ma_3 hx hb hK hP h12 dXM_about_67 ?_
              refine lv_goto (tgt := 78) hx hb dXM_about_68 (by decide) ?_
              exact W.iret hx hb hr (fun t ht hW => ⟨⟨_, (I_1, J_1, cn_1, cm_1, so_1), rfl, h, by rw [fxC, ht]; exact hP⟩, hS.F ht⟩) hS.2.2 dXM_about_78 hlocks
        · replace h := h.2 c5
          refine lv_iload_n hx hb dXM_about_29 rfl (lv_at hl 4 rfl) ?_
          refine lv_if_ne (tgt := 43) hx hb dXM_about_30 (by decide) (fun c13 => ?_) (fun c13 => ?_)
          · replace h := h.1 c13
            refine lv_aload_n hx hb dXM_about_43 rfl (lv_at hl 1 rfl) ?_
            refine mg_kind hx hb hown hts hK hP dXM_about_44 ?_
            refine lv_iload hx hb dXM_about_47 (lv_at hl 0 rfl) ?_
            obtain ⟨h14, h⟩ := h
            refine ma_2 hx hb hK hP h14 dXM_about_49 ?_
            exact W.iret hx hb hr (fun t ht hW => ⟨⟨_, (I_1, J_1, cn_1, cm_1, so_1), rfl, h, by rw [fxC, ht]; exact hP⟩, hS.F ht⟩) hS.2.2 dXM_about_50 hlocks
          · replace h := h.2 c13
            refine lv_aload_n hx hb dXM_about_33 rfl (lv_at hl 1 rfl) ?_
            refine mg_author hx hb hown hts hK hP dXM_about_34 ?_
            refine lv_iload hx hb dXM_about_37 (lv_at hl 0 rfl) ?_
            obtain ⟨h15, h⟩ := h
            refine ma_1 hx hb hK hP h15 dXM_about_39 ?_
            refine lv_goto (tgt := 50) hx hb dXM_about_40 (by decide) ?_
            exact W.iret hx hb hr (fun t ht hW => ⟨⟨_, (I_1, J_1, cn_1, cm_1, so_1), rfl, h, by rw [fxC, ht]; exact hP⟩, hS.F ht⟩) hS.2.2 dXM_about_50 hlocks
      · replace h := h.2 c4
        refine lv_iconst (v := (-1)) hx hb dXM_about_22 (by decide) ?_
        exact W.iret hx hb hr (fun t ht hW => ⟨⟨_, (I_1, J_1, cn_1, cm_1, so_1), rfl, h, by rw [fxC, ht]; exact hP⟩, hS.F ht⟩) hS.2.2 dXM_about_23 hlocks
set_option maxRecDepth 100000 in
set_option maxHeartbeats 4000000 in
theorem cMabout {l : Launch} {D : va_G} {A : Nat → Prop} {h0 : Nat} {ad : Nat → Nat} {cI cL : ClassId} (hD : mDs A h0 ad cI cL) {post : Int32 → (Nat → Nat → Int32) → (Nat → Nat → Int64) → Int32 → Int64 → Int32 → Prop} {I : Nat → Nat → Int32} {J : Nat → Nat → Int64} {cn : Int32} {cm : Int64} {so : Int32} {a1 : Int32} {a2 : Int32} {a3 : Int32} (h : wMabout post I J cn cm so a1 a2 a3) : Met l yXM_about (.code yXM_about cXM_about 5 (some .int) :: lg_tbl) ({ frames := 3, cells := 0, slots := 0, locals := 70 } : Room) (va_Pc [.ref h0, .int a1, .int a2, .int a3] (fxB (mW D h0 ad cI cL (I, J, cn, cm, so)) D vwCl (mTy cI cL))) (va_Qi (fun (r : Int32) (u : mS) => post r u.1 u.2.1 u.2.2.1 u.2.2.2.1 u.2.2.2.2) (fxC (mW D h0 ad cI cL)) A) 0 0 A := by
  refine fx_start (by decide +kernel) (Nat.le_of_ble_eq_true rfl) ?_
  intro p e s m below meth c ls hx hb hr hml hown hts hlocks hnm hB hl
  exact sMabout_in ⟨hx, hb, hr, hml, hown, hts, hlocks, hB.2.1, hB.2.2, hD⟩ I J cn cm so a1 a2 a3 h _ _ ls hB.1 va_S.rf hl
end
section
def wMlinkAt (post : Int64 → (Nat → Nat → Int32) → (Nat → Nat → Int64) → Int32 → Int64 → Int32 → Prop) (I : Nat → Nat → Int32) (J : Nat → Nat → Int64) (cn : Int32) (cm : Int64) (so : Int32) (a1 : Int32) (a2 : Int32) (a3 : Int32) : Prop := (wMplaceOf (fun r1 I_1 J_1 cn_1 cm_1 so_1 => ((r1 < 0 → (post 0 I_1 J_1 cn_1 cm_1 so_1)) ∧ (¬ r1 < 0 → ((a3 < 0 → (post 0 I_1 J_1 cn_1 cm_1 so_1)) ∧ (¬ a3 < 0 → (vp_in r1 40 ∧ ((a3 < (I_1 4 (Int32.toNatClampNeg r1)) → (vp_in ((4 * r1) + a3) 160 ∧ (post (J_1 1 (Int32.toNatClampNeg ((4 * r1) + a3))) I_1 J_1 cn_1 cm_1 so_1))) ∧ (¬ a3 < (I_1 4 (Int32.toNatClampNeg r1)) → (post 0 I_1 J_1 cn_1 cm_1 so_1))))))))) I J cn cm so a1 a2)
set_option maxRecDepth 100000 in
set_option maxHeartbeats 4000000 in
theorem sMlinkAt_in {p : Program} {l : Launch} {e : Env} {s : State} {m : MethodId} {args : Array Value} {below : List Frame} {meth : Method} {c : Code} {D : va_G} {A : Nat → Prop} {h0 : Nat} {ad : Nat → Nat} {cI cL : ClassId} {post : Int64 → (Nat → Nat → Int32) → (Nat → Nat → Int64) → Int32 → Int64 → Int32 → Prop} (C0 : mCx p s m args meth c D A h0 ad cI cL cXM_linkAt 5 (some .long)) : ∀ (I : Nat → Nat → Int32) (J : Nat → Nat → Int64) (cn : Int32) (cm : Int64) (so : Int32) (a1 : Int32) (a2 : Int32) (a3 : Int32), wMlinkAt post I J cn cm so a1 a2 a3 → ∀ (H : Heap) (locs : List Loc) (ls : Array Slot), mW D h0 ad cI cL (I, J, cn, cm, so) H → va_S A s.heap H locs → lv_has ls 5 [(0, .ref h0), (1, .int a1), (2, .int a2), (3, .int a3)] → W p l e ({ frames := 3, cells := 0, slots := 0, locals := 70 } : Room) s m args below meth c H locs 0 0 (MQ below (va_Ql (fun (r : Int64) (u : mS) => post r u.1 u.2.1 u.2.2.1 u.2.2.2.1 u.2.2.2.2) (fxC (mW D h0 ad cI cL)) A) args s 0 0 A) (F0 m 0 ls []) := by
  obtain ⟨hx, hb, hr, hml, hown, hts, hlocks, hK, hN, hD⟩ := id C0
  intro I J cn cm so a1 a2 a3 h H locs ls hP hS hl
  replace h : (wMplaceOf (fun r1 I_1 J_1 cn_1 cm_1 so_1 => ((r1 < 0 → (post 0 I_1 J_1 cn_1 cm_1 so_1)) ∧ (¬ r1 < 0 → ((a3 < 0 → (post 0 I_1 J_1 cn_1 cm_1 so_1)) ∧ (¬ a3 < 0 → (vp_in r1 40 ∧ ((a3 < (I_1 4 (Int32.toNatClampNeg r1)) → (vp_in ((4 * r1) + a3) 160 ∧ (post (J_1 1 (Int32.toNatClampNeg ((4 * r1) + a3))) I_1 J_1 cn_1 cm_1 so_1))) ∧ (¬ a3 < (I_1 4 (Int32.toNatClampNeg r1)) → (post 0 I_1 J_1 cn_1 cm_1 so_1))))))))) I J cn cm so a1 a2) := h
  refine lv_aload_n hx hb dXM_linkAt_0 rfl (lv_at hl 0 rfl) ?_
  refine lv_iload_n hx hb dXM_linkAt_1 rfl (lv_at hl 1 rfl) ?_
  refine lv_iload_n hx hb dXM_linkAt_2 rfl (lv_at hl 2 rfl) ?_
  refine va_calli (va_runV (As := [.int a1, .int a2]) (rest := []) ⟨hx, hb, hml, hown, hts⟩ (cMplaceOf hD h) (fx_cwV 2 hts gw_M_176 hdXM_placeOf ⟨Nat.le_of_ble_eq_true rfl, Nat.le_of_ble_eq_true rfl⟩) (fx_preV (m_recv hK hP) hP hK hN) rfl rfl hl.1 rfl (lv_room (Nat.le_of_ble_eq_true rfl)) dXM_linkAt_3 ⟨Nat.le_of_ble_eq_true rfl, Nat.le_of_ble_eq_true rfl⟩) hS (fun _ _ q => q) (fun _ q => q) (fun r1 u t H locs ht hvm h hP hz hk hS => ?_)
  rw [fxC, ht] at hP
  obtain ⟨I_1, J_1, cn_1, cm_1, so_1⟩ := u
  dsimp only at h
  refine lv_istore (lv' := [(4, .int r1), (0, .ref h0), (1, .int a1), (2, .int a2), (3, .int a3)]) hx hb dXM_linkAt_6 hl (by decide) rfl (fun ls hl => ?_)
  refine lv_iload hx hb dXM_linkAt_8 (lv_at hl 0 rfl) ?_
  refine lv_if_lt (tgt := 28) hx hb dXM_linkAt_10 (by decide) (fun c2 => ?_) (fun c2 => ?_)
  · replace h := h.1 c2
    refine lv_lconst (v := 0) hx hb dXM_linkAt_28 (by decide) ?_
    refine lv_goto (tgt := 43) hx hb dXM_linkAt_29 (by decide) ?_
    exact W.lret hx hb hr (fun t ht hW => ⟨⟨_, (I_1, J_1, cn_1, cm_1, so_1), rfl, h, by rw [fxC, ht]; exact hP⟩, hS.F ht⟩) hS.2.2 dXM_linkAt_43 hlocks
  · replace h := h.2 c2
    refine lv_iload_n hx hb dXM_linkAt_13 rfl (lv_at hl 4 rfl) ?_
    refine lv_if_lt (tgt := 28) hx hb dXM_linkAt_14 (by decide) (fun c3 => ?_) (fun c3 => ?_)
    · replace h := h.1 c3
      refine lv_lconst (v := 0) hx hb dXM_linkAt_28 (by decide) ?_
      refine lv_goto (tgt := 43) hx hb dXM_linkAt_29 (by decide) ?_
      exact W.lret hx hb hr (fun t ht hW => ⟨⟨_, (I_1, J_1, cn_1, cm_1, so_1), rfl, h, by rw [fxC, ht]; exact hP⟩, hS.F ht⟩) hS.2.2 dXM_linkAt_43 hlocks
    · replace h := h.2 c3
      refine lv_iload_n hx hb dXM_linkAt_17 rfl (lv_at hl 4 rfl) ?_
      refine lv_aload_n hx hb dXM_linkAt_18 rfl (lv_at hl 1 rfl) ?_
      refine mg_links hx hb hown hts hK hP dXM_linkAt_19 ?_
      refine lv_iload hx hb dXM_linkAt_22 (lv_at hl 0 rfl) ?_
      obtain ⟨h4, h⟩ := h
      refine ma_5 hx hb hK hP h4 dXM_linkAt_24 ?_
      refine lv_icmp_lt (tgt := 32) hx hb dXM_linkAt_25 (by decide) (fun c5 => ?_) (fun c5 => ?_)
      · replace h := h.1 c5
        refine lv_aload_n hx hb dXM_linkAt_32 rfl (lv_at hl 1 rfl) ?_
        refine mg_link hx hb hown hts hK hP dXM_linkAt_33 ?_
        refine lv_iconst (v := 4) hx hb dXM_linkAt_36 (by decide) ?_
        refine lv_iload hx hb dXM_linkAt_37 (lv_at hl 0 rfl) ?_
        refine lv_imul hx hb dXM_linkAt_39 ?_
        refine lv_iload_n hx hb dXM_linkAt_40 rfl (lv_at hl 4 rfl) ?_
        refine lv_iadd hx hb dXM_linkAt_41 ?_
        obtain ⟨h6, h⟩ := h
        refine ma_6 hx hb hK hP h6 dXM_linkAt_42 ?_
        exact W.lret hx hb hr (fun t ht hW => ⟨⟨_, (I_1, J_1, cn_1, cm_1, so_1), rfl, h, by rw [fxC, ht]; exact hP⟩, hS.F ht⟩) hS.2.2 dXM_linkAt_43 hlocks
      · replace h := h.2 c5
        refine lv_lconst (v := 0) hx hb dXM_linkAt_28 (by decide) ?_
        refine lv_goto (tgt := 43) hx hb dXM_linkAt_29 (by decide) ?_
        exact W.lret hx hb hr (fun t ht hW => ⟨⟨_, (I_1, J_1, cn_1, cm_1, so_1), rfl, h, by rw [fxC, ht]; exact hP⟩, hS.F ht⟩) hS.2.2 dXM_linkAt_43 hlocks
set_option maxRecDepth 100000 in
set_option maxHeartbeats 4000000 in
theorem cMlinkAt {l : Launch} {D : va_G} {A : Nat → Prop} {h0 : Nat} {ad : Nat → Nat} {cI cL : ClassId} (hD : mDs A h0 ad cI cL) {post : Int64 → (Nat → Nat → Int32) → (Nat → Nat → Int64) → Int32 → Int64 → Int32 → Prop} {I : Nat → Nat → Int32} {J : Nat → Nat → Int64} {cn : Int32} {cm : Int64} {so : Int32} {a1 : Int32} {a2 : Int32} {a3 : Int32} (h : wMlinkAt post I J cn cm so a1 a2 a3) : Met l yXM_linkAt (.code yXM_linkAt cXM_linkAt 5 (some .long) :: lg_tbl) ({ frames := 3, cells := 0, slots := 0, locals := 70 } : Room) (va_Pc [.ref h0, .int a1, .int a2, .int a3] (fxB (mW D h0 ad cI cL (I, J, cn, cm, so)) D vwCl (mTy cI cL))) (va_Ql (fun (r : Int64) (u : mS) => post r u.1 u.2.1 u.2.2.1 u.2.2.2.1 u.2.2.2.2) (fxC (mW D h0 ad cI cL)) A) 0 0 A := by
  refine fx_start (by decide +kernel) (Nat.le_of_ble_eq_true rfl) ?_
  intro p e s m below meth c ls hx hb hr hml hown hts hlocks hnm hB hl
  exact sMlinkAt_in ⟨hx, hb, hr, hml, hown, hts, hlocks, hB.2.1, hB.2.2, hD⟩ I J cn cm so a1 a2 a3 h _ _ ls hB.1 va_S.rf hl
def wMheads (post : Int32 → (Nat → Nat → Int32) → (Nat → Nat → Int64) → Int32 → Int64 → Int32 → Prop) (I : Nat → Nat → Int32) (J : Nat → Nat → Int64) (cn : Int32) (cm : Int64) (so : Int32) (a1 : Int32) : Prop := (wMisReplica (fun r1 I_1 J_1 cn_1 cm_1 so_1 => ((r1 = 0 → (post (-1) I_1 J_1 cn_1 cm_1 so_1)) ∧ (¬ r1 = 0 → (wMheadSet (fun r3 I_3 J_3 cn_3 cm_3 so_3 => (wMsize (fun r4 I_4 J_4 cn_4 cm_4 so_4 => (post r4 I_4 J_4 cn_4 cm_4 so_4)) I_3 J_3 cn_3 cm_3 so_3 r3)) I_1 J_1 cn_1 cm_1 so_1 a1)))) I J cn cm so a1)
set_option maxRecDepth 100000 in
set_option maxHeartbeats 4000000 in
theorem sMheads_in {p : Program} {l : Launch} {e : Env} {s : State} {m : MethodId} {args : Array Value} {below : List Frame} {meth : Method} {c : Code} {D : va_G} {A : Nat → Prop} {h0 : Nat} {ad : Nat → Nat} {cI cL : ClassId} {post : Int32 → (Nat → Nat → Int32) → (Nat → Nat → Int64) → Int32 → Int64 → Int32 → Prop} (C0 : mCx p s m args meth c D A h0 ad cI cL cXM_heads 2 (some .int)) : ∀ (I : Nat → Nat → Int32) (J : Nat → Nat → Int64) (cn : Int32) (cm : Int64) (so : Int32) (a1 : Int32), wMheads post I J cn cm so a1 → ∀ (H : Heap) (locs : List Loc) (ls : Array Slot), mW D h0 ad cI cL (I, J, cn, cm, so) H → va_S A s.heap H locs → lv_has ls 2 [(0, .ref h0), (1, .int a1)] → W p l e ({ frames := 2, cells := 0, slots := 0, locals := 46 } : Room) s m args below meth c H locs 0 0 (MQ below (va_Qi (fun (r : Int32) (u : mS) => post r u.1 u.2.1 u.2.2.1 u.2.2.2.1 u.2.2.2.2) (fxC (mW D h0 ad cI cL)) A) args s 0 0 A) (F0 m 0 ls []) := by
  obtain ⟨hx, hb, hr, hml, hown, hts, hlocks, hK, hN, hD⟩ := id C0
  intro I J cn cm so a1 h H locs ls hP hS hl
  replace h : (wMisReplica (fun r1 I_1 J_1 cn_1 cm_1 so_1 => ((r1 = 0 → (post (-1) I_1 J_1 cn_1 cm_1 so_1)) ∧ (¬ r1 = 0 → (wMheadSet (fun r3 I_3 J_3 cn_3 cm_3 so_3 => (wMsize (fun r4 I_4 J_4 cn_4 cm_4 so_4 => (post r4 I_4 J_4 cn_4 cm_4 so_4)) I_3 J_3 cn_3 cm_3 so_3 r3)) I_1 J_1 cn_1 cm_1 so_1 a1)))) I J cn cm so a1) := h
  refine lv_iload_n hx hb dXM_heads_0 rfl (lv_at hl 1 rfl) ?_
  refine va_calli (va_runS (As := [.int a1]) (rest := []) ⟨hx, hb, hml, hown, hts⟩ (cMisReplica hD h) (fx_cwS 1 hts gw_M_132 hdXM_isReplica ⟨Nat.le_of_ble_eq_true rfl, Nat.le_of_ble_eq_true rfl⟩) (fx_preS hP hK hN) rfl rfl hl.1 rfl (lv_room (Nat.le_of_ble_eq_true rfl)) dXM_heads_1 ⟨Nat.le_of_ble_eq_true rfl, Nat.le_of_ble_eq_true rfl⟩) hS (fun _ _ q => q) (fun _ q => q) (fun r1 u t H locs ht hvm h hP hz hk hS => ?_)
  rw [fxC, ht] at hP
  obtain ⟨I_1, J_1, cn_1, cm_1, so_1⟩ := u
  dsimp only at h
  refine lv_if_eq (tgt := 18) hx hb dXM_heads_4 (by decide) (fun c2 => ?_) (fun c2 => ?_)
  · replace h := h.1 c2
    refine lv_iconst (v := (-1)) hx hb dXM_heads_18 (by decide) ?_
    exact W.iret hx hb hr (fun t ht hW => ⟨⟨_, (I_1, J_1, cn_1, cm_1, so_1), rfl, h, by rw [fxC, ht]; exact hP⟩, hS.F ht⟩) hS.2.2 dXM_heads_19 hlocks
  · replace h := h.2 c2
    refine lv_aload_n hx hb dXM_heads_7 rfl (lv_at hl 0 rfl) ?_
    refine lv_iload_n hx hb dXM_heads_8 rfl (lv_at hl 1 rfl) ?_
    refine va_calll (va_runV (As := [.int a1]) (rest := []) ⟨hx, hb, hml, hown, hts⟩ (cMheadSet hD h) (fx_cwV 1 hts gw_M_157 hdXM_headSet ⟨Nat.le_of_ble_eq_true rfl, Nat.le_of_ble_eq_true rfl⟩) (fx_preV (m_recv hK hP) hP hK hN) rfl rfl hl.1 rfl (lv_room (Nat.le_of_ble_eq_true rfl)) dXM_heads_9 ⟨Nat.le_of_ble_eq_true rfl, Nat.le_of_ble_eq_true rfl⟩) hS (fun _ _ q => q) (fun _ q => q) (fun r3 u t H locs ht hvm h hP hz hk hS => ?_)
    rw [fxC, ht] at hP
    obtain ⟨I_3, J_3, cn_3, cm_3, so_3⟩ := u
    dsimp only at h
    refine va_calli (va_runS (As := [.long r3]) (rest := []) ⟨hx, hb, hml, hown, hts⟩ (cMsize hD h) (fx_cwS 1 hts gw_M_173 hdXM_size ⟨Nat.le_of_ble_eq_true rfl, Nat.le_of_ble_eq_true rfl⟩) (fx_preS hP hK hN) rfl rfl hl.1 rfl (lv_room (Nat.le_of_ble_eq_true rfl)) dXM_heads_12 ⟨Nat.le_of_ble_eq_true rfl, Nat.le_of_ble_eq_true rfl⟩) hS (fun _ _ q => q) (fun _ q => q) (fun r4 u t H locs ht hvm h hP hz hk hS => ?_)
    rw [fxC, ht] at hP
    obtain ⟨I_4, J_4, cn_4, cm_4, so_4⟩ := u
    dsimp only at h
    refine lv_goto (tgt := 19) hx hb dXM_heads_15 (by decide) ?_
    exact W.iret hx hb hr (fun t ht hW => ⟨⟨_, (I_4, J_4, cn_4, cm_4, so_4), rfl, h, by rw [fxC, ht]; exact hP⟩, hS.F ht⟩) hS.2.2 dXM_heads_19 hlocks
set_option maxRecDepth 100000 in
set_option maxHeartbeats 4000000 in
theorem cMheads {l : Launch} {D : va_G} {A : Nat → Prop} {h0 : Nat} {ad : Nat → Nat} {cI cL : ClassId} (hD : mDs A h0 ad cI cL) {post : Int32 → (Nat → Nat → Int32) → (Nat → Nat → Int64) → Int32 → Int64 → Int32 → Prop} {I : Nat → Nat → Int32} {J : Nat → Nat → Int64} {cn : Int32} {cm : Int64} {so : Int32} {a1 : Int32} (h : wMheads post I J cn cm so a1) : Met l yXM_heads (.code yXM_heads cXM_heads 2 (some .int) :: lg_tbl) ({ frames := 2, cells := 0, slots := 0, locals := 46 } : Room) (va_Pc [.ref h0, .int a1] (fxB (mW D h0 ad cI cL (I, J, cn, cm, so)) D vwCl (mTy cI cL))) (va_Qi (fun (r : Int32) (u : mS) => post r u.1 u.2.1 u.2.2.1 u.2.2.2.1 u.2.2.2.2) (fxC (mW D h0 ad cI cL)) A) 0 0 A := by
  refine fx_start (by decide +kernel) (Nat.le_of_ble_eq_true rfl) ?_
  intro p e s m below meth c ls hx hb hr hml hown hts hlocks hnm hB hl
  exact sMheads_in ⟨hx, hb, hr, hml, hown, hts, hlocks, hB.2.1, hB.2.2, hD⟩ I J cn cm so a1 h _ _ ls hB.1 va_S.rf hl
def wMheadAt (post : Int64 → (Nat → Nat → Int32) → (Nat → Nat → Int64) → Int32 → Int64 → Int32 → Prop) (I : Nat → Nat → Int32) (J : Nat → Nat → Int64) (cn : Int32) (cm : Int64) (so : Int32) (a1 : Int32) (a2 : Int32) : Prop := (wMisReplica (fun r1 I_1 J_1 cn_1 cm_1 so_1 => ((¬ r1 = 0 → (wMsortHeads (fun I_3 J_3 cn_3 cm_3 so_3 => ((a2 < 0 → (post 0 I_3 J_3 cn_3 cm_3 so_3)) ∧ (¬ a2 < 0 → ((a2 < so_3 → (vp_in a2 40 ∧ (vp_in (I_3 10 (Int32.toNatClampNeg a2)) 40 ∧ (post (J_3 0 (Int32.toNatClampNeg (I_3 10 (Int32.toNatClampNeg a2)))) I_3 J_3 cn_3 cm_3 so_3)))) ∧ (¬ a2 < so_3 → (post 0 I_3 J_3 cn_3 cm_3 so_3)))))) I_1 J_1 cn_1 cm_1 so_1 a1)) ∧ (r1 = 0 → (post 0 I_1 J_1 cn_1 cm_1 so_1)))) I J cn cm so a1)
set_option maxRecDepth 100000 in
set_option maxHeartbeats 4000000 in
theorem sMheadAt_in {p : Program} {l : Launch} {e : Env} {s : State} {m : MethodId} {args : Array Value} {below : List Frame} {meth : Method} {c : Code} {D : va_G} {A : Nat → Prop} {h0 : Nat} {ad : Nat → Nat} {cI cL : ClassId} {post : Int64 → (Nat → Nat → Int32) → (Nat → Nat → Int64) → Int32 → Int64 → Int32 → Prop} (C0 : mCx p s m args meth c D A h0 ad cI cL cXM_headAt 3 (some .long)) : ∀ (I : Nat → Nat → Int32) (J : Nat → Nat → Int64) (cn : Int32) (cm : Int64) (so : Int32) (a1 : Int32) (a2 : Int32), wMheadAt post I J cn cm so a1 a2 → ∀ (H : Heap) (locs : List Loc) (ls : Array Slot), mW D h0 ad cI cL (I, J, cn, cm, so) H → va_S A s.heap H locs → lv_has ls 3 [(0, .ref h0), (1, .int a1), (2, .int a2)] → W p l e ({ frames := 3, cells := 0, slots := 0, locals := 69 } : Room) s m args below meth c H locs 0 0 (MQ below (va_Ql (fun (r : Int64) (u : mS) => post r u.1 u.2.1 u.2.2.1 u.2.2.2.1 u.2.2.2.2) (fxC (mW D h0 ad cI cL)) A) args s 0 0 A) (F0 m 0 ls []) := by
  obtain ⟨hx, hb, hr, hml, hown, hts, hlocks, hK, hN, hD⟩ := id C0
  intro I J cn cm so a1 a2 h H locs ls hP hS hl
  replace h : (wMisReplica (fun r1 I_1 J_1 cn_1 cm_1 so_1 => ((¬ r1 = 0 → (wMsortHeads (fun I_3 J_3 cn_3 cm_3 so_3 => ((a2 < 0 → (post 0 I_3 J_3 cn_3 cm_3 so_3)) ∧ (¬ a2 < 0 → ((a2 < so_3 → (vp_in a2 40 ∧ (vp_in (I_3 10 (Int32.toNatClampNeg a2)) 40 ∧ (post (J_3 0 (Int32.toNatClampNeg (I_3 10 (Int32.toNatClampNeg a2)))) I_3 J_3 cn_3 cm_3 so_3)))) ∧ (¬ a2 < so_3 → (post 0 I_3 J_3 cn_3 cm_3 so_3)))))) I_1 J_1 cn_1 cm_1 so_1 a1)) ∧ (r1 = 0 → (post 0 I_1 J_1 cn_1 cm_1 so_1)))) I J cn cm so a1) := h
  refine lv_iload_n hx hb dXM_headAt_0 rfl (lv_at hl 1 rfl) ?_
  refine va_calli (va_runS (As := [.int a1]) (rest := []) ⟨hx, hb, hml, hown, hts⟩ (cMisReplica hD h) (fx_cwS 1 hts gw_M_132 hdXM_isReplica ⟨Nat.le_of_ble_eq_true rfl, Nat.le_of_ble_eq_true rfl⟩) (fx_preS hP hK hN) rfl rfl hl.1 rfl (lv_room (Nat.le_of_ble_eq_true rfl)) dXM_headAt_1 ⟨Nat.le_of_ble_eq_true rfl, Nat.le_of_ble_eq_true rfl⟩) hS (fun _ _ q => q) (fun _ q => q) (fun r1 u t H locs ht hvm h hP hz hk hS => ?_)
  rw [fxC, ht] at hP
  obtain ⟨I_1, J_1, cn_1, cm_1, so_1⟩ := u
  dsimp only at h
  refine lv_if_ne (tgt := 9) hx hb dXM_headAt_4 (by decide) (fun c2 => ?_) (fun c2 => ?_)
  · replace h := h.1 c2
    refine lv_aload_n hx hb dXM_headAt_9 rfl (lv_at hl 0 rfl) ?_
    refine lv_iload_n hx hb dXM_headAt_10 rfl (lv_at hl 1 rfl) ?_
    refine va_callv (va_runV (As := [.int a1]) (rest := []) ⟨hx, hb, hml, hown, hts⟩ (cMsortHeads hD h) (fx_cwV 1 hts gw_M_135 hdXM_sortHeads ⟨Nat.le_of_ble_eq_true rfl, Nat.le_of_ble_eq_true rfl⟩) (fx_preV (m_recv hK hP) hP hK hN) rfl rfl hl.1 rfl (lv_room (Nat.le_of_ble_eq_true rfl)) dXM_headAt_11 ⟨Nat.le_of_ble_eq_true rfl, Nat.le_of_ble_eq_true rfl⟩) hS (fun _ _ q => q) (fun _ q => q) (fun u t H locs ht hvm h hP hz hk hS => ?_)
    rw [fxC, ht] at hP
    obtain ⟨I_3, J_3, cn_3, cm_3, so_3⟩ := u
    dsimp only at h
    refine lv_iload_n hx hb dXM_headAt_14 rfl (lv_at hl 2 rfl) ?_
    refine lv_if_lt (tgt := 26) hx hb dXM_headAt_15 (by decide) (fun c4 => ?_) (fun c4 => ?_)
    · replace h := h.1 c4
      refine lv_lconst (v := 0) hx hb dXM_headAt_26 (by decide) ?_
      refine lv_goto (tgt := 41) hx hb dXM_headAt_27 (by decide) ?_
      exact W.lret hx hb hr (fun t ht hW => ⟨⟨_, (I_3, J_3, cn_3, cm_3, so_3), rfl, h, by rw [fxC, ht]; exact hP⟩, hS.F ht⟩) hS.2.2 dXM_headAt_41 hlocks
    · replace h := h.2 c4
      refine lv_iload_n hx hb dXM_headAt_18 rfl (lv_at hl 2 rfl) ?_
      refine lv_aload_n hx hb dXM_headAt_19 rfl (lv_at hl 0 rfl) ?_
      refine mg_sorted hx hb hown hts hK hP dXM_headAt_20 ?_
      refine lv_icmp_lt (tgt := 30) hx hb dXM_headAt_23 (by decide) (fun c5 => ?_) (fun c5 => ?_)
      · replace h := h.1 c5
        refine lv_aload_n hx hb dXM_headAt_30 rfl (lv_at hl 0 rfl) ?_
        refine mg_hash hx hb hown hts hK hP dXM_headAt_31 ?_
        refine lv_aload_n hx hb dXM_headAt_34 rfl (lv_at hl 0 rfl) ?_
        refine mg_order hx hb hown hts hK hP dXM_headAt_35 ?_
        refine lv_iload_n hx hb dXM_headAt_38 rfl (lv_at hl 2 rfl) ?_
        obtain ⟨h6, h⟩ := h
        refine ma_18 hx hb hK hP h6 dXM_headAt_39 ?_
        obtain ⟨h7, h⟩ := h
        refine ma_0 hx hb hK hP h7 dXM_headAt_40 ?_
        exact W.lret hx hb hr (fun t ht hW => ⟨⟨_, (I_3, J_3, cn_3, cm_3, so_3), rfl, h, by rw [fxC, ht]; exact hP⟩, hS.F ht⟩) hS.2.2 dXM_headAt_41 hlocks
      · replace h := h.2 c5
        refine lv_lconst (v := 0) hx hb dXM_headAt_26 (by decide) ?_
        refine lv_goto (tgt := 41) hx hb dXM_headAt_27 (by decide) ?_
        exact W.lret hx hb hr (fun t ht hW => ⟨⟨_, (I_3, J_3, cn_3, cm_3, so_3), rfl, h, by rw [fxC, ht]; exact hP⟩, hS.F ht⟩) hS.2.2 dXM_headAt_41 hlocks
  · replace h := h.2 c2
    refine lv_lconst (v := 0) hx hb dXM_headAt_7 (by decide) ?_
    exact W.lret hx hb hr (fun t ht hW => ⟨⟨_, (I_1, J_1, cn_1, cm_1, so_1), rfl, h, by rw [fxC, ht]; exact hP⟩, hS.F ht⟩) hS.2.2 dXM_headAt_8 hlocks
set_option maxRecDepth 100000 in
set_option maxHeartbeats 4000000 in
theorem cMheadAt {l : Launch} {D : va_G} {A : Nat → Prop} {h0 : Nat} {ad : Nat → Nat} {cI cL : ClassId} (hD : mDs A h0 ad cI cL) {post : Int64 → (Nat → Nat → Int32) → (Nat → Nat → Int64) → Int32 → Int64 → Int32 → Prop} {I : Nat → Nat → Int32} {J : Nat → Nat → Int64} {cn : Int32} {cm : Int64} {so : Int32} {a1 : Int32} {a2 : Int32} (h : wMheadAt post I J cn cm so a1 a2) : Met l yXM_headAt (.code yXM_headAt cXM_headAt 3 (some .long) :: lg_tbl) ({ frames := 3, cells := 0, slots := 0, locals := 69 } : Room) (va_Pc [.ref h0, .int a1, .int a2] (fxB (mW D h0 ad cI cL (I, J, cn, cm, so)) D vwCl (mTy cI cL))) (va_Ql (fun (r : Int64) (u : mS) => post r u.1 u.2.1 u.2.2.1 u.2.2.2.1 u.2.2.2.2) (fxC (mW D h0 ad cI cL)) A) 0 0 A := by
  refine fx_start (by decide +kernel) (Nat.le_of_ble_eq_true rfl) ?_
  intro p e s m below meth c ls hx hb hr hml hown hts hlocks hnm hB hl
  exact sMheadAt_in ⟨hx, hb, hr, hml, hown, hts, hlocks, hB.2.1, hB.2.2, hD⟩ I J cn cm so a1 a2 h _ _ ls hB.1 va_S.rf hl
noncomputable def wMvalue_35 (post : Int32 → (Nat → Nat → Int32) → (Nat → Nat → Int64) → Int32 → Int64 → Int32 → Prop) (n : Nat) : (Nat → Nat → Int32) → (Nat → Nat → Int64) → Int32 → Int64 → Int32 → Int32 → Int32 → Int32 → Prop := Nat.rec (motive := fun _ => (Nat → Nat → Int32) → (Nat → Nat → Int64) → Int32 → Int64 → Int32 → Int32 → Int32 → Int32 → Prop) (fun _ _ _ _ _ _ _ _ => False) (fun _ K35 I J cn cm so v2 v3 v4 => ((so ≤ v4 → (post v3 I J cn cm so)) ∧ (¬ so ≤ v4 → (vp_in v4 40 ∧ (vp_in (I 10 (Int32.toNatClampNeg v4)) 40 ∧ ((¬ (I 2 (Int32.toNatClampNeg (I 10 (Int32.toNatClampNeg v4)))) = v2 → (K35 I J cn cm so v2 v3 (v4 + 1))) ∧ ((I 2 (Int32.toNatClampNeg (I 10 (Int32.toNatClampNeg v4)))) = v2 → (vp_in (I 10 (Int32.toNatClampNeg v4)) 40 ∧ ((2 ≤ (I 1 (Int32.toNatClampNeg (I 10 (Int32.toNatClampNeg v4)))) → (K35 I J cn cm so v2 v3 (v4 + 1))) ∧ (¬ 2 ≤ (I 1 (Int32.toNatClampNeg (I 10 (Int32.toNatClampNeg v4)))) → (vp_in (I 10 (Int32.toNatClampNeg v4)) 40 ∧ ((¬ (I 1 (Int32.toNatClampNeg (I 10 (Int32.toNatClampNeg v4)))) = 0 → (vp_in (I 10 (Int32.toNatClampNeg v4)) 40 ∧ ∀ x16, x16 = v3 + (I 3 (Int32.toNatClampNeg (I 10 (Int32.toNatClampNeg v4)))) → (K35 I J cn cm so v2 x16 (v4 + 1)))) ∧ ((I 1 (Int32.toNatClampNeg (I 10 (Int32.toNatClampNeg v4)))) = 0 → (vp_in (I 10 (Int32.toNatClampNeg v4)) 40 ∧ ∀ x18, x18 = I 3 (Int32.toNatClampNeg (I 10 (Int32.toNatClampNeg v4))) → (K35 I J cn cm so v2 x18 (v4 + 1)))))))))))))))) n
def wMvalue (post : Int32 → (Nat → Nat → Int32) → (Nat → Nat → Int64) → Int32 → Int64 → Int32 → Prop) (I : Nat → Nat → Int32) (J : Nat → Nat → Int64) (cn : Int32) (cm : Int64) (so : Int32) (a1 : Int32) (a2 : Int32) : Prop := (wMisReplica (fun r1 I_1 J_1 cn_1 cm_1 so_1 => ((r1 = 0 → (post 0 I_1 J_1 cn_1 cm_1 so_1)) ∧ (¬ r1 = 0 → ((a2 < 0 → (post 0 I_1 J_1 cn_1 cm_1 so_1)) ∧ (¬ a2 < 0 → ((a2 ≤ 7 → (vp_in a1 4 ∧ (wMsort (fun I_6 J_6 cn_6 cm_6 so_6 => (∃ k, wMvalue_35 post  k I_6 J_6 cn_6 cm_6 so_6 a2 0 0)) I_1 J_1 cn_1 cm_1 so_1 (J_1 3 (Int32.toNatClampNeg a1)) 1))) ∧ (¬ a2 ≤ 7 → (post 0 I_1 J_1 cn_1 cm_1 so_1)))))))) I J cn cm so a1)
set_option maxRecDepth 100000 in
set_option maxHeartbeats 4000000 in
theorem sMvalue_35 {p : Program} {l : Launch} {e : Env} {s : State} {m : MethodId} {args : Array Value} {below : List Frame} {meth : Method} {c : Code} {D : va_G} {A : Nat → Prop} {h0 : Nat} {ad : Nat → Nat} {cI cL : ClassId} {post : Int32 → (Nat → Nat → Int32) → (Nat → Nat → Int64) → Int32 → Int64 → Int32 → Prop} (C0 : mCx p s m args meth c D A h0 ad cI cL cXM_value 6 (some .int)) : ∀ (n : Nat) (I : Nat → Nat → Int32) (J : Nat → Nat → Int64) (cn : Int32) (cm : Int64) (so : Int32) (v2 : Int32) (v3 : Int32) (v4 : Int32), wMvalue_35 post  n I J cn cm so v2 v3 v4 → ∀ (H : Heap) (locs : List Loc) (ls : Array Slot), mW D h0 ad cI cL (I, J, cn, cm, so) H → va_S A s.heap H locs → lv_has ls 6 [(0, .ref h0), (2, .int v2), (3, .int v3), (4, .int v4)] → W p l e ({ frames := 2, cells := 0, slots := 0, locals := 48 } : Room) s m args below meth c H locs 0 0 (MQ below (va_Qi (fun (r : Int32) (u : mS) => post r u.1 u.2.1 u.2.2.1 u.2.2.2.1 u.2.2.2.2) (fxC (mW D h0 ad cI cL)) A) args s 0 0 A) (F0 m 35 ls []) := by
  obtain ⟨hx, hb, hr, hml, hown, hts, hlocks, hK, hN, hD⟩ := id C0
  intro n
  induction n with
  | zero => exact fun _ _ _ _ _ _ _ _ h => h.elim
  | succ n hK35 =>
    intro I J cn cm so v2 v3 v4 h H locs ls hP hS hl
    replace h : ((so ≤ v4 → (post v3 I J cn cm so)) ∧ (¬ so ≤ v4 → (vp_in v4 40 ∧ (vp_in (I 10 (Int32.toNatClampNeg v4)) 40 ∧ ((¬ (I 2 (Int32.toNatClampNeg (I 10 (Int32.toNatClampNeg v4)))) = v2 → ((wMvalue_35 post  n) I J cn cm so v2 v3 (v4 + 1))) ∧ ((I 2 (Int32.toNatClampNeg (I 10 (Int32.toNatClampNeg v4)))) = v2 → (vp_in (I 10 (Int32.toNatClampNeg v4)) 40 ∧ ((2 ≤ (I 1 (Int32.toNatClampNeg (I 10 (Int32.toNatClampNeg v4)))) → ((wMvalue_35 post  n) I J cn cm so v2 v3 (v4 + 1))) ∧ (¬ 2 ≤ (I 1 (Int32.toNatClampNeg (I 10 (Int32.toNatClampNeg v4)))) → (vp_in (I 10 (Int32.toNatClampNeg v4)) 40 ∧ ((¬ (I 1 (Int32.toNatClampNeg (I 10 (Int32.toNatClampNeg v4)))) = 0 → (vp_in (I 10 (Int32.toNatClampNeg v4)) 40 ∧ ∀ x16, x16 = v3 + (I 3 (Int32.toNatClampNeg (I 10 (Int32.toNatClampNeg v4)))) → ((wMvalue_35 post  n) I J cn cm so v2 x16 (v4 + 1)))) ∧ ((I 1 (Int32.toNatClampNeg (I 10 (Int32.toNatClampNeg v4)))) = 0 → (vp_in (I 10 (Int32.toNatClampNeg v4)) 40 ∧ ∀ x18, x18 = I 3 (Int32.toNatClampNeg (I 10 (Int32.toNatClampNeg v4))) → ((wMvalue_35 post  n) I J cn cm so v2 x18 (v4 + 1))))))))))))))) := h
    refine lv_iload hx hb dXM_value_35 (lv_at hl 3 rfl) ?_
    refine lv_aload_n hx hb dXM_value_37 rfl (lv_at hl 0 rfl) ?_
    refine mg_sorted hx hb hown hts hK hP dXM_value_38 ?_
    refine lv_icmp_ge (tgt := 111) hx hb dXM_value_41 (by decide) (fun c7 => ?_) (fun c7 => ?_)
    · replace h := h.1 c7
      refine lv_iload_n hx hb dXM_value_111 rfl (lv_at hl 2 rfl) ?_
      exact W.iret hx hb hr (fun t ht hW => ⟨⟨_, (I, J, cn, cm, so), rfl, h, by rw [fxC, ht]; exact hP⟩, hS.F ht⟩) hS.2.2 dXM_value_112 hlocks
    · replace h := h.2 c7
      refine lv_aload_n hx hb dXM_value_44 rfl (lv_at hl 0 rfl) ?_
      refine mg_order hx hb hown hts hK hP dXM_value_45 ?_
      refine lv_iload hx hb dXM_value_48 (lv_at hl 3 rfl) ?_
      obtain ⟨h8, h⟩ := h
      refine ma_18 hx hb hK hP h8 dXM_value_50 ?_
      refine lv_istore (lv' := [(5, .int (I 10 (Int32.toNatClampNeg v4))), (0, .ref h0), (2, .int v2), (3, .int v3), (4, .int v4)]) hx hb dXM_value_51 hl (by decide) rfl (fun ls hl => ?_)
      refine lv_aload_n hx hb dXM_value_53 rfl (lv_at hl 1 rfl) ?_
      refine mg_key hx hb hown hts hK hP dXM_value_54 ?_
      refine lv_iload hx hb dXM_value_57 (lv_at hl 0 rfl) ?_
      obtain ⟨h9, h⟩ := h
      refine ma_3 hx hb hK hP h9 dXM_value_59 ?_
      refine lv_iload_n hx hb dXM_value_60 rfl (lv_at hl 2 rfl) ?_
      refine lv_icmp_ne (tgt := 105) hx hb dXM_value_61 (by decide) (fun c10 => ?_) (fun c10 => ?_)
      · replace h := h.1 c10
        refine lv_iinc (v := v4 + 1) (lv' := [(4, .int (v4 + 1)), (5, .int (I 10 (Int32.toNatClampNeg v4))), (0, .ref h0), (2, .int v2), (3, .int v3)]) hx hb dXM_value_105 hl (k := 4) rfl rfl (by decide) rfl (fun ls hl => ?_)
        refine lv_goto (tgt := 35) hx hb dXM_value_108 (by decide) ?_
        exact hK35 I J cn cm so v2 v3 (v4 + 1) h H locs ls hP hS (lv_sub hl [2, 3, 4, 0] rfl)
      · replace h := h.2 c10
        refine lv_aload_n hx hb dXM_value_64 rfl (lv_at hl 1 rfl) ?_
        refine mg_kind hx hb hown hts hK hP dXM_value_65 ?_
        refine lv_iload hx hb dXM_value_68 (lv_at hl 0 rfl) ?_
        obtain ⟨h11, h⟩ := h
        refine ma_2 hx hb hK hP h11 dXM_value_70 ?_
        refine lv_iconst (v := 2) hx hb dXM_value_71 (by decide) ?_
        refine lv_icmp_ge (tgt := 105) hx hb dXM_value_72 (by decide) (fun c12 => ?_) (fun c12 => ?_)
        · replace h := h.1 c12
          refine lv_iinc (v := v4 + 1) (lv' := [(4, .int (v4 + 1)), (5, .int (I 10 (Int32.toNatClampNeg v4))), (0, .ref h0), (2, .int v2), (3, .int v3)]) hx hb dXM_value_105 hl (k := 4) rfl rfl (by decide) rfl (fun ls hl => ?_)
          refine lv_goto (tgt := 35) hx hb dXM_value_108 (by decide) ?_
          exact hK35 I J cn cm so v2 v3 (v4 + 1) h H locs ls hP hS (lv_sub hl [2, 3, 4, 0] rfl)
        · replace h := h.2 c12
          refine lv_aload_n hx hb dXM_value_75 rfl (lv_at hl 1 rfl) ?_
          refine mg_kind hx hb hown hts hK hP dXM_value_76 ?_
          refine lv_iload hx hb dXM_value_79 (lv_at hl 0 rfl) ?_
          obtain ⟨h13, h⟩ := h
          refine ma_2 hx hb hK hP h13 dXM_value_81 ?_
          refine lv_if_ne (tgt := 95) hx hb dXM_value_82 (by decide) (fun c14 => ?_) (fun c14 => ?_)
          · replace h := h.1 c14
            refine lv_iload_n hx hb dXM_value_95 rfl (lv_at hl 3 rfl) ?_
            refine lv_aload_n hx hb dXM_value_96 rfl (lv_at hl 1 rfl) ?_
            refine mg_value hx hb hown hts hK hP dXM_value_97 ?_
            refine lv_iload hx hb dXM_value_100 (lv_at hl 0 rfl) ?_
            obtain ⟨h15, h⟩ := h
            refine ma_4 hx hb hK hP h15 dXM_value_102 ?_
            refine lv_iadd hx hb dXM_value_103 ?_
            refine lv_topi (fun x16 ex16 => ?_)
            replace h := h x16 ex16
            refine lv_istore_n (lv' := [(3, .int x16), (5, .int (I 10 (Int32.toNatClampNeg v4))), (0, .ref h0), (2, .int v2), (4, .int v4)]) hx hb dXM_value_104 rfl hl (by decide) rfl (fun ls hl => ?_)
            refine lv_iinc (v := v4 + 1) (lv' := [(4, .int (v4 + 1)), (3, .int x16), (5, .int (I 10 (Int32.toNatClampNeg v4))), (0, .ref h0), (2, .int v2)]) hx hb dXM_value_105 hl (k := 4) rfl rfl (by decide) rfl (fun ls hl => ?_)
            refine lv_goto (tgt := 35) hx hb dXM_value_108 (by decide) ?_
            exact hK35 I J cn cm so v2 x16 (v4 + 1) h H locs ls hP hS (lv_sub hl [3, 4, 1, 0] rfl)
          · replace h := h.2 c14
            refine lv_aload_n hx hb dXM_value_85 rfl (lv_at hl 1 rfl) ?_
            refine mg_value hx hb hown hts hK hP dXM_value_86 ?_
            refine lv_iload hx hb dXM_value_89 (lv_at hl 0 rfl) ?_
            obtain ⟨h17, h⟩ := h
            refine ma_4 hx hb hK hP h17 dXM_value_91 ?_
            refine lv_goto (tgt := 104) hx hb dXM_value_92 (by decide) ?_
            refine lv_topi (fun x18 ex18 => ?_)
            replace h := h x18 ex18
            refine lv_istore_n (lv' := [(3, .int x18), (5, .int (I 10 (Int32.toNatClampNeg v4))), (0, .ref h0), (2, .int v2), (4, .int v4)]) hx hb dXM_value_104 rfl hl (by decide) rfl (fun ls hl => ?_)
            refine lv_iinc (v := v4 + 1) (lv' := [(4, .int (v4 + 1)), (3, .int x18), (5, .int (I 10 (Int32.toNatClampNeg v4))), (0, .ref h0), (2, .int v2)]) hx hb dXM_value_105 hl (k := 4) rfl rfl (by decide) rfl (fun ls hl => ?_)
            refine lv_goto (tgt := 35) hx hb dXM_value_108 (by decide) ?_
            exact hK35 I J cn cm so v2 x18 (v4 + 1) h H locs ls hP hS (lv_sub hl [3, 4, 1, 0] rfl)
set_option maxRecDepth 100000 in
set_option maxHeartbeats 4000000 in
theorem sMvalue_in {p : Program} {l : Launch} {e : Env} {s : State} {m : MethodId} {args : Array Value} {below : List Frame} {meth : Method} {c : Code} {D : va_G} {A : Nat → Prop} {h0 : Nat} {ad : Nat → Nat} {cI cL : ClassId} {post : Int32 → (Nat → Nat → Int32) → (Nat → Nat → Int64) → Int32 → Int64 → Int32 → Prop} (C0 : mCx p s m args meth c D A h0 ad cI cL cXM_value 6 (some .int)) : ∀ (I : Nat → Nat → Int32) (J : Nat → Nat → Int64) (cn : Int32) (cm : Int64) (so : Int32) (a1 : Int32) (a2 : Int32), wMvalue post I J cn cm so a1 a2 → ∀ (H : Heap) (locs : List Loc) (ls : Array Slot), mW D h0 ad cI cL (I, J, cn, cm, so) H → va_S A s.heap H locs → lv_has ls 6 [(0, .ref h0), (1, .int a1), (2, .int a2)] → W p l e ({ frames := 2, cells := 0, slots := 0, locals := 48 } : Room) s m args below meth c H locs 0 0 (MQ below (va_Qi (fun (r : Int32) (u : mS) => post r u.1 u.2.1 u.2.2.1 u.2.2.2.1 u.2.2.2.2) (fxC (mW D h0 ad cI cL)) A) args s 0 0 A) (F0 m 0 ls []) := by
  obtain ⟨hx, hb, hr, hml, hown, hts, hlocks, hK, hN, hD⟩ := id C0
  intro I J cn cm so a1 a2 h H locs ls hP hS hl
  replace h : (wMisReplica (fun r1 I_1 J_1 cn_1 cm_1 so_1 => ((r1 = 0 → (post 0 I_1 J_1 cn_1 cm_1 so_1)) ∧ (¬ r1 = 0 → ((a2 < 0 → (post 0 I_1 J_1 cn_1 cm_1 so_1)) ∧ (¬ a2 < 0 → ((a2 ≤ 7 → (vp_in a1 4 ∧ (wMsort (fun I_6 J_6 cn_6 cm_6 so_6 => (∃ k, wMvalue_35 post  k I_6 J_6 cn_6 cm_6 so_6 a2 0 0)) I_1 J_1 cn_1 cm_1 so_1 (J_1 3 (Int32.toNatClampNeg a1)) 1))) ∧ (¬ a2 ≤ 7 → (post 0 I_1 J_1 cn_1 cm_1 so_1)))))))) I J cn cm so a1) := h
  refine lv_iload_n hx hb dXM_value_0 rfl (lv_at hl 1 rfl) ?_
  refine va_calli (va_runS (As := [.int a1]) (rest := []) ⟨hx, hb, hml, hown, hts⟩ (cMisReplica hD h) (fx_cwS 1 hts gw_M_132 hdXM_isReplica ⟨Nat.le_of_ble_eq_true rfl, Nat.le_of_ble_eq_true rfl⟩) (fx_preS hP hK hN) rfl rfl hl.1 rfl (lv_room (Nat.le_of_ble_eq_true rfl)) dXM_value_1 ⟨Nat.le_of_ble_eq_true rfl, Nat.le_of_ble_eq_true rfl⟩) hS (fun _ _ q => q) (fun _ q => q) (fun r1 u t H locs ht hvm h hP hz hk hS => ?_)
  rw [fxC, ht] at hP
  obtain ⟨I_1, J_1, cn_1, cm_1, so_1⟩ := u
  dsimp only at h
  refine lv_if_eq (tgt := 17) hx hb dXM_value_4 (by decide) (fun c2 => ?_) (fun c2 => ?_)
  · replace h := h.1 c2
    refine lv_iconst (v := 0) hx hb dXM_value_17 (by decide) ?_
    exact W.iret hx hb hr (fun t ht hW => ⟨⟨_, (I_1, J_1, cn_1, cm_1, so_1), rfl, h, by rw [fxC, ht]; exact hP⟩, hS.F ht⟩) hS.2.2 dXM_value_18 hlocks
  · replace h := h.2 c2
    refine lv_iload_n hx hb dXM_value_7 rfl (lv_at hl 2 rfl) ?_
    refine lv_if_lt (tgt := 17) hx hb dXM_value_8 (by decide) (fun c3 => ?_) (fun c3 => ?_)
    · replace h := h.1 c3
      refine lv_iconst (v := 0) hx hb dXM_value_17 (by decide) ?_
      exact W.iret hx hb hr (fun t ht hW => ⟨⟨_, (I_1, J_1, cn_1, cm_1, so_1), rfl, h, by rw [fxC, ht]; exact hP⟩, hS.F ht⟩) hS.2.2 dXM_value_18 hlocks
    · replace h := h.2 c3
      refine lv_iload_n hx hb dXM_value_11 rfl (lv_at hl 2 rfl) ?_
      refine lv_bipush (v := 7) hx hb dXM_value_12 (by decide) ?_
      refine lv_icmp_le (tgt := 19) hx hb dXM_value_14 (by decide) (fun c4 => ?_) (fun c4 => ?_)
      · replace h := h.1 c4
        refine lv_aload_n hx hb dXM_value_19 rfl (lv_at hl 0 rfl) ?_
        refine lv_aload_n hx hb dXM_value_20 rfl (lv_at hl 0 rfl) ?_
        refine mg_holds hx hb hown hts hK hP dXM_value_21 ?_
        refine lv_iload_n hx hb dXM_value_24 rfl (lv_at hl 1 rfl) ?_
        obtain ⟨h5, h⟩ := h
        refine ma_9 hx hb hK hP h5 dXM_value_25 ?_
        refine lv_iconst (v := 1) hx hb dXM_value_26 (by decide) ?_
        refine va_callv (va_runV (As := [.long (J_1 3 (Int32.toNatClampNeg a1)), .int 1]) (rest := []) ⟨hx, hb, hml, hown, hts⟩ (cMsort hD h) (fx_cwV 2 hts gw_M_153 hdXM_sort ⟨Nat.le_of_ble_eq_true rfl, Nat.le_of_ble_eq_true rfl⟩) (fx_preV (m_recv hK hP) hP hK hN) rfl rfl hl.1 rfl (lv_room (Nat.le_of_ble_eq_true rfl)) dXM_value_27 ⟨Nat.le_of_ble_eq_true rfl, Nat.le_of_ble_eq_true rfl⟩) hS (fun _ _ q => q) (fun _ q => q) (fun u t H locs ht hvm h hP hz hk hS => ?_)
        rw [fxC, ht] at hP
        obtain ⟨I_6, J_6, cn_6, cm_6, so_6⟩ := u
        dsimp only at h
        refine lv_iconst (v := 0) hx hb dXM_value_30 (by decide) ?_
        refine lv_istore_n (lv' := [(3, .int 0), (0, .ref h0), (1, .int a1), (2, .int a2)]) hx hb dXM_value_31 rfl hl (by decide) rfl (fun ls hl => ?_)
        refine lv_iconst (v := 0) hx hb dXM_value_32 (by decide) ?_
        refine lv_istore (lv' := [(4, .int 0), (3, .int 0), (0, .ref h0), (1, .int a1), (2, .int a2)]) hx hb dXM_value_33 hl (by decide) rfl (fun ls hl => ?_)
        obtain ⟨k, h⟩ := h
        exact sMvalue_35  C0  k I_6 J_6 cn_6 cm_6 so_6 a2 0 0 h H locs ls hP hS (lv_sub hl [2, 4, 1, 0] rfl)
      · replace h := h.2 c4
        refine lv_iconst (v := 0) hx hb dXM_value_17 (by decide) ?_
        exact W.iret hx hb hr (fun t ht hW => ⟨⟨_, (I_1, J_1, cn_1, cm_1, so_1), rfl, h, by rw [fxC, ht]; exact hP⟩, hS.F ht⟩) hS.2.2 dXM_value_18 hlocks
set_option maxRecDepth 100000 in
set_option maxHeartbeats 4000000 in
theorem cMvalue {l : Launch} {D : va_G} {A : Nat → Prop} {h0 : Nat} {ad : Nat → Nat} {cI cL : ClassId} (hD : mDs A h0 ad cI cL) {post : Int32 → (Nat → Nat → Int32) → (Nat → Nat → Int64) → Int32 → Int64 → Int32 → Prop} {I : Nat → Nat → Int32} {J : Nat → Nat → Int64} {cn : Int32} {cm : Int64} {so : Int32} {a1 : Int32} {a2 : Int32} (h : wMvalue post I J cn cm so a1 a2) : Met l yXM_value (.code yXM_value cXM_value 6 (some .int) :: lg_tbl) ({ frames := 2, cells := 0, slots := 0, locals := 48 } : Room) (va_Pc [.ref h0, .int a1, .int a2] (fxB (mW D h0 ad cI cL (I, J, cn, cm, so)) D vwCl (mTy cI cL))) (va_Qi (fun (r : Int32) (u : mS) => post r u.1 u.2.1 u.2.2.1 u.2.2.2.1 u.2.2.2.2) (fxC (mW D h0 ad cI cL)) A) 0 0 A := by
  refine fx_start (by decide +kernel) (Nat.le_of_ble_eq_true rfl) ?_
  intro p e s m below meth c ls hx hb hr hml hown hts hlocks hnm hB hl
  exact sMvalue_in ⟨hx, hb, hr, hml, hown, hts, hlocks, hB.2.1, hB.2.2, hD⟩ I J cn cm so a1 a2 h _ _ ls hB.1 va_S.rf hl
def wMall (post : Int32 → (Nat → Nat → Int32) → (Nat → Nat → Int64) → Int32 → Int64 → Int32 → Prop) (I : Nat → Nat → Int32) (J : Nat → Nat → Int64) (cn : Int32) (cm : Int64) (so : Int32) : Prop := (post cn I J cn cm so)
set_option maxRecDepth 100000 in
set_option maxHeartbeats 4000000 in
theorem sMall_in {p : Program} {l : Launch} {e : Env} {s : State} {m : MethodId} {args : Array Value} {below : List Frame} {meth : Method} {c : Code} {D : va_G} {A : Nat → Prop} {h0 : Nat} {ad : Nat → Nat} {cI cL : ClassId} {post : Int32 → (Nat → Nat → Int32) → (Nat → Nat → Int64) → Int32 → Int64 → Int32 → Prop} (C0 : mCx p s m args meth c D A h0 ad cI cL cXM_all 1 (some .int)) : ∀ (I : Nat → Nat → Int32) (J : Nat → Nat → Int64) (cn : Int32) (cm : Int64) (so : Int32), wMall post I J cn cm so → ∀ (H : Heap) (locs : List Loc) (ls : Array Slot), mW D h0 ad cI cL (I, J, cn, cm, so) H → va_S A s.heap H locs → lv_has ls 1 [(0, .ref h0)] → W p l e ({ frames := 0, cells := 0, slots := 0, locals := 0 } : Room) s m args below meth c H locs 0 0 (MQ below (va_Qi (fun (r : Int32) (u : mS) => post r u.1 u.2.1 u.2.2.1 u.2.2.2.1 u.2.2.2.2) (fxC (mW D h0 ad cI cL)) A) args s 0 0 A) (F0 m 0 ls []) := by
  obtain ⟨hx, hb, hr, hml, hown, hts, hlocks, hK, hN, hD⟩ := id C0
  intro I J cn cm so h H locs ls hP hS hl
  replace h : (post cn I J cn cm so) := h
  refine lv_aload_n hx hb dXM_all_0 rfl (lv_at hl 0 rfl) ?_
  refine mg_count hx hb hown hts hK hP dXM_all_1 ?_
  exact W.iret hx hb hr (fun t ht hW => ⟨⟨_, (I, J, cn, cm, so), rfl, h, by rw [fxC, ht]; exact hP⟩, hS.F ht⟩) hS.2.2 dXM_all_4 hlocks
set_option maxRecDepth 100000 in
set_option maxHeartbeats 4000000 in
theorem cMall {l : Launch} {D : va_G} {A : Nat → Prop} {h0 : Nat} {ad : Nat → Nat} {cI cL : ClassId} (hD : mDs A h0 ad cI cL) {post : Int32 → (Nat → Nat → Int32) → (Nat → Nat → Int64) → Int32 → Int64 → Int32 → Prop} {I : Nat → Nat → Int32} {J : Nat → Nat → Int64} {cn : Int32} {cm : Int64} {so : Int32} (h : wMall post I J cn cm so) : Met l yXM_all (.code yXM_all cXM_all 1 (some .int) :: lg_tbl) ({ frames := 0, cells := 0, slots := 0, locals := 0 } : Room) (va_Pc [.ref h0] (fxB (mW D h0 ad cI cL (I, J, cn, cm, so)) D vwCl (mTy cI cL))) (va_Qi (fun (r : Int32) (u : mS) => post r u.1 u.2.1 u.2.2.1 u.2.2.2.1 u.2.2.2.2) (fxC (mW D h0 ad cI cL)) A) 0 0 A := by
  refine fx_start (by decide +kernel) (Nat.le_of_ble_eq_true rfl) ?_
  intro p e s m below meth c ls hx hb hr hml hown hts hlocks hnm hB hl
  exact sMall_in ⟨hx, hb, hr, hml, hown, hts, hlocks, hB.2.1, hB.2.2, hD⟩ I J cn cm so h _ _ ls hB.1 va_S.rf hl
end
section
/-! a world as a function from addresses to cells; the kit's rows over lists serve it by fh_put, fh_new, fh_one -/
/-- a cell: an array of a kind (by number) and its contents, or an object of a class (by its number in vwCl) and its fields; kind 4 is a mark for the list's empty array, which lies below and never changes -/
abbrev fh_E : Type := (Nat × vp_A) ⊕ (Nat × List Value)
abbrev fh_T : Type := Nat → Option fh_E
def fh_cv (ca : Nat → Nat) (e : fh_E) : va_E := match e with
  | .inl a => .inl (ca a.1, a.2)
  | .inr o => .inr o
def fh_fz (e : fh_E) : Bool := match e with
  | .inl a => a.1 == 4
  | .inr _ => false
def fh_up (w : fh_T) (a : Nat) (e : fh_E) : fh_T := fun b => if b = a then some e else w b
def fh_ok (D : va_G) (ca : Nat → Nat) (A : Nat → Prop) (w : fh_T) (H : Heap) : Prop := ∀ (a : Nat) (e : fh_E), w a = some e → (fh_fz e = true → a = ca 5) ∧ (fh_fz e = false → A a ∧ va_at D vwCl (a, fh_cv ca e) H)
/-- field k of the object a of class ci is v -/
def fh_g (w : fh_T) (a ci k : Nat) (v : Value) : Prop := ∃ fs : List Value, w a = some (.inr (ci, fs)) ∧ fs[k]? = some v
/-- the length of an array of objects, the list's empty one among them -/
def fh_len (w : fh_T) (a n : Nat) : Prop := (∃ z, w a = some (.inl (3, n, z))) ∨ (n = 0 ∧ ∃ z, w a = some (.inl (4, 0, z)))
theorem fh_up_s (w : fh_T) (a : Nat) (e : fh_E) : fh_up w a e a = some e := by simp [fh_up]
theorem fh_up_n {w : fh_T} {a b : Nat} {e : fh_E} (h : b ≠ a) : fh_up w a e b = w b := by simp [fh_up, h]
section FHL
variable {ca : Nat → Nat}
def fh_one1 (ca : Nat → Nat) (w : fh_T) (a : Nat) : Option (Nat × va_E) := (w a).bind (fun e => if fh_fz e then none else some (a, fh_cv ca e))
theorem fh_one1_iff {w : fh_T} {a b : Nat} {e : va_E} : fh_one1 ca w a = some (b, e) ↔ b = a ∧ ∃ e0 : fh_E, w a = some e0 ∧ fh_fz e0 = false ∧ fh_cv ca e0 = e := by
  unfold fh_one1
  cases hw : w a with
  | none => simp
  | some x =>
    cases hz : fh_fz x with
    | true => simp [hz]
    | false =>
      simp only [Option.bind_some, hz, Bool.false_eq_true, if_false, Option.some.injEq, Prod.mk.injEq]
      constructor
      · rintro ⟨h1, h2⟩
        exact ⟨h1.symm, x, rfl, hz, h2⟩
      · rintro ⟨h1, e0, h2, -, h3⟩
        subst h2
        exact ⟨h1.symm, h3⟩
def fh_list (ca : Nat → Nat) (w : fh_T) (n : Nat) : va_W := (List.range n).filterMap (fh_one1 ca w)
theorem fh_list_succ (w : fh_T) (n : Nat) : fh_list ca w (n + 1) = fh_list ca w n ++ (fh_one1 ca w n).toList := by
  unfold fh_list
  rw [List.range_succ, List.filterMap_append]
  cases h : fh_one1 ca w n <;> simp [h]
theorem fh_list_mem {w : fh_T} {n a : Nat} {e : va_E} : (a, e) ∈ fh_list ca w n ↔ a < n ∧ ∃ e0 : fh_E, w a = some e0 ∧ fh_fz e0 = false ∧ fh_cv ca e0 = e := by
  unfold fh_list
  rw [List.mem_filterMap]
  constructor
  · rintro ⟨b, hb, h⟩
    obtain ⟨h1, h2⟩ := fh_one1_iff.mp h
    subst h1
    exact ⟨List.mem_range.mp hb, h2⟩
  · rintro ⟨h1, h2⟩
    exact ⟨a, List.mem_range.mpr h1, fh_one1_iff.mpr ⟨rfl, h2⟩⟩
theorem fh_list_D {A : Nat → Prop} {w : fh_T} (hA : ∀ (a : Nat) (e : fh_E), w a = some e → fh_fz e = false → A a) : ∀ n : Nat, va_D A (fh_list ca w n)
  | 0 => ⟨fun i j p q h => by simp [fh_list] at h, fun k q h => by simp [fh_list] at h⟩
  | n + 1 => by
    rw [fh_list_succ]
    cases h : fh_one1 ca w n with
    | none => simpa using fh_list_D hA n
    | some x =>
      obtain ⟨b, e⟩ := x
      obtain ⟨hb, e0, h1, h2, h3⟩ := fh_one1_iff.mp h
      subst hb
      refine va_D.app (fh_list_D hA b) ⟨fun i j p q hi hj _ => ?_, fun k q hk => ?_⟩ (fun i j p q hi hj hpq => ?_)
      · have h1 := (List.getElem?_eq_some_iff.mp hi).1
        have h2 := (List.getElem?_eq_some_iff.mp hj).1
        simp at h1 h2
        omega
      · have hm := List.mem_of_getElem? hk
        simp at hm
        subst hm
        exact hA b e0 h1 h2
      · obtain ⟨pa, pe⟩ := p
        have h1 := (fh_list_mem.mp (List.mem_of_getElem? hi)).1
        have hm := List.mem_of_getElem? hj
        simp at hm
        subst hm
        simp at hpq
        omega
end FHL
section FHW
variable {D : va_G} {ca : Nat → Nat} {A : Nat → Prop} {w : fh_T} {H : Heap}
theorem fh_one (h : fh_ok D ca A w H) {a : Nat} {e : fh_E} (ha : w a = some e) (hz : fh_fz e = false) : va_P D vwCl [(a, fh_cv ca e)] H := by
  intro k q hq
  have h1 := List.mem_of_getElem? hq
  simp at h1
  subst h1
  exact ((h a e ha).2 hz).2
theorem fh_all (h : fh_ok D ca A w H) : va_P D vwCl (fh_list ca w H.size) H ∧ va_D A (fh_list ca w H.size) ∧ ∀ (b : Nat) (eb : fh_E), w b = some eb → fh_fz eb = false → ∃ k : Nat, (fh_list ca w H.size)[k]? = some (b, fh_cv ca eb) := by
  refine ⟨fun k q hq => ?_, fh_list_D (fun a e ha hz => ((h a e ha).2 hz).1) _, fun b eb hb hz => ?_⟩
  · obtain ⟨a, e⟩ := q
    obtain ⟨-, e0, h1, h2, h3⟩ := fh_list_mem.mp (List.mem_of_getElem? hq)
    rw [← h3]
    exact ((h a e0 h1).2 h2).2
  · have hl : b < H.size := ((h b eb hb).2 hz).2.lt
    exact List.getElem?_of_mem (fh_list_mem.mpr ⟨hl, eb, hb, hz, rfl⟩)
theorem fh_put (h : fh_ok D ca A w H) {a : Nat} {e0 : fh_E} (ha : w a = some e0) (hz0 : fh_fz e0 = false) : ∃ (ws : va_W) (q0 : Nat), ws[q0]? = some (a, fh_cv ca e0) ∧ va_P D vwCl ws H ∧ va_D A ws ∧ (∀ (b : Nat) (eb : fh_E), w b = some eb → fh_fz eb = false → ∃ k : Nat, ws[k]? = some (b, fh_cv ca eb)) ∧ ∀ (e1 : fh_E) (H1 : Heap), fh_fz e1 = false → va_P D vwCl (ws.set q0 (a, fh_cv ca e1)) H1 → fh_ok D ca A (fh_up w a e1) H1 := by
  obtain ⟨hP, hD, hin⟩ := fh_all h
  obtain ⟨q0, hq0⟩ := hin a e0 ha hz0
  refine ⟨_, q0, hq0, hP, hD, hin, fun e1 H1 hz1 h1 b eb hb => ?_⟩
  by_cases hba : b = a
  · subst hba
    rw [fh_up_s] at hb
    cases hb
    refine ⟨fun q => absurd (hz1.symm.trans q) (by decide), fun _ => ⟨((h b e0 ha).2 hz0).1, h1 q0 _ ?_⟩⟩
    rw [List.getElem?_set_self (List.getElem?_eq_some_iff.mp hq0).1]
  · rw [fh_up_n hba] at hb
    refine ⟨(h b eb hb).1, fun hz => ?_⟩
    obtain ⟨k, hk⟩ := hin b eb hb hz
    refine ⟨((h b eb hb).2 hz).1, h1 k _ ?_⟩
    have hne : q0 ≠ k := by
      intro e
      subst e
      rw [hq0] at hk
      simp at hk
      exact hba hk.1.symm
    rw [List.getElem?_set_ne hne]
    exact hk
theorem fh_new (h : fh_ok D ca A w H) : ∃ ws : va_W, va_P D vwCl ws H ∧ va_D A ws ∧ ∀ (q : Nat) (e1 : fh_E) (H1 : Heap), fh_fz e1 = false → ca 5 ≠ q → va_P D vwCl (ws ++ [(q, fh_cv ca e1)]) H1 → va_D A (ws ++ [(q, fh_cv ca e1)]) → fh_ok D ca A (fh_up w q e1) H1 ∧ w q = none := by
  obtain ⟨hP, hD, hin⟩ := fh_all h
  refine ⟨_, hP, hD, fun q e1 H1 hz1 hne5 h1 h2 => ?_⟩
  have hlast : (fh_list ca w H.size ++ [(q, fh_cv ca e1)])[(fh_list ca w H.size).length]? = some (q, fh_cv ca e1) := by
    rw [List.getElem?_append_right (Nat.le_refl _)]
    simp
  have hold : ∀ (b : Nat) (eb : fh_E), w b = some eb → fh_fz eb = false → ∃ k : Nat, k < (fh_list ca w H.size).length ∧ (fh_list ca w H.size ++ [(q, fh_cv ca e1)])[k]? = some (b, fh_cv ca eb) := by
    intro b eb hb hz
    obtain ⟨k, hk⟩ := hin b eb hb hz
    have hl := (List.getElem?_eq_some_iff.mp hk).1
    exact ⟨k, hl, by rw [List.getElem?_append_left hl]; exact hk⟩
  have hno : w q = none := by
    cases hq : w q with
    | none => rfl
    | some eb =>
      cases hz : fh_fz eb with
      | true => exact absurd ((h q eb hq).1 hz).symm hne5
      | false =>
        obtain ⟨k, hl, hk⟩ := hold q eb hq hz
        have := h2.1 k _ _ _ hk hlast rfl
        omega
  refine ⟨fun b eb hb => ?_, hno⟩
  by_cases hbq : b = q
  · subst hbq
    rw [fh_up_s] at hb
    cases hb
    exact ⟨fun q => absurd (hz1.symm.trans q) (by decide), fun _ => ⟨h2.2 _ _ hlast, h1 _ _ hlast⟩⟩
  · rw [fh_up_n hbq] at hb
    refine ⟨(h b eb hb).1, fun hz => ?_⟩
    obtain ⟨k, -, hk⟩ := hold b eb hb hz
    exact ⟨((h b eb hb).2 hz).1, h1 k _ hk⟩
end FHW
/-- the list's empty array and the static that holds it -/
def kE (ca : Nat → Nat) (A : Nat → Prop) (U : State) (H : Heap) : Prop := va_T (.object "java/lang/Object") (ca 5) 0 (fun _ => .null) A U H ∧ va_Z "java/util/ArrayList" "DEFAULTCAPACITY_EMPTY_ELEMENTDATA" "[Ljava/lang/Object;" (.ref (ca 5)) A U H
theorem kE.kept {ca : Nat → Nat} {A : Nat → Prop} {U : State} {H H1 : Heap} (h : kE ca A U H) (hq : ∀ a : Nat, a < H.size → ¬ A a → H1[a]? = H[a]?) : kE ca A U H1 := ⟨h.1.kept hq, h.2.kept hq⟩
theorem kE.moved {ca : Nat → Nat} {A : Nat → Prop} {u U : State} {H : Heap} (hvm : u.vm.Alike U.vm) (h : kE ca A u H) : kE ca A U H := ⟨h.1.moved hvm, h.2.moved hvm⟩
theorem kE.out {ca : Nat → Nat} {A : Nat → Prop} {U : State} {H : Heap} (h : kE ca A U H) : ¬ A (ca 5) := va_T.out h.1
abbrev kTy (ca : Nat → Nat) : List (ClassId × FieldType) := [(ca 0, .object "HashLinkedWeb$Member"), (ca 1, .object "HashLinkedWeb$Replica"), (ca 2, .long), (ca 3, .object "java/lang/Object")]
/-- a contract's start over this world -/
def kB (D : va_G) (ca : Nat → Nat) (A : Nat → Prop) (w : fh_T) : State → Prop := fun U => fh_ok D ca A w U.heap ∧ (∀ q : Nat, U.heap.size ≤ q → A q) ∧ va_K D vwCl (kTy ca) U ∧ fx_N U ∧ kE ca A U U.heap
def kCx (p : Program) (s : State) (m : MethodId) (args : Array Value) (meth : Method) (c : Code) (D : va_G) (ca : Nat → Nat) (A : Nat → Prop) (own : String) (cc : ByteArray) (nL : Nat) (ret : Option FieldType) (nm : String) : Prop := p.tables.exec = Jvm.exec ∧ c.code = cc ∧ meth.sig.returnType = ret ∧ c.maxLocals = nL ∧ s.vm.findClass own = some m.cls ∧ (∀ w ∈ lg_tbl, w.before args s = true) ∧ meth.locks = false ∧ va_K D vwCl (kTy ca) s ∧ fx_N s ∧ kE ca A s s.heap ∧ (∀ q : Nat, s.heap.size ≤ q → A q) ∧ meth.name = nm
theorem k_blind {D : va_G} {ca : Nat → Nat} {A : Nat → Prop} {w : fh_T} {av : List Value} : FrameBlind (va_Pc av (kB D ca A w)) := fun a U g mk q => ⟨q.1, q.2.1, q.2.2.1, va_K.moved (u := U) (U := U.calling g mk a) (Vm.Alike.refl U.vm) q.2.2.2.1, fx_N.same (u := U) (U := U.calling g mk a) rfl q.2.2.2.2.1, kE.moved (u := U) (U := U.calling g mk a) (Vm.Alike.refl U.vm) q.2.2.2.2.2⟩
section KPRE
variable {s : State} {H H0 : Heap} {locs : List Loc} {C : String} {b : Nat} {av : List Value} {D : va_G} {ca : Nat → Nat} {A : Nat → Prop} {w : fh_T}
theorem k_at (hP : fh_ok D ca A w H) (hS : va_S A s.heap H locs) (hA : ∀ q : Nat, s.heap.size ≤ q → A q) (hK : va_K D vwCl (kTy ca) s) (hN : fx_N s) (hE : kE ca A s s.heap) {U : State} (hU : U.heap = H) (hW : s.WarmedH U.vm) : kB D ca A w U := ⟨by rw [hU]; exact hP, fun q h => hA q (Nat.le_trans hS.1 (by rw [← hU]; exact h)), va_K.moved hW.alike hK, hN.warm hW, by rw [hU]; exact (hE.kept (fun a h1 h2 => hS.2.1 a h1 h2)).moved hW.alike⟩
theorem k_preS (hP : fh_ok D ca A w H) (hS : va_S A s.heap H locs) (hA : ∀ q : Nat, s.heap.size ≤ q → A q) (hK : va_K D vwCl (kTy ca) s) (hN : fx_N s) (hE : kE ca A s s.heap) : PreS s H (va_Pc av (kB D ca A w)) av := ⟨k_blind, fun _ hU hW => ⟨rfl, k_at hP hS hA hK hN hE hU hW⟩⟩
theorem k_preV {ci : Nat} {q : vw_C} {fs : List Value} (he : w b = some (.inr (ci, fs))) (hc : vwCl[ci]? = some q) (hP : fh_ok D ca A w H) (hS : va_S A s.heap H locs) (hA : ∀ q : Nat, s.heap.size ≤ q → A q) (hK : va_K D vwCl (kTy ca) s) (hN : fx_N s) (hE : kE ca A s s.heap) : PreV s H q.1 b (va_Pc (.ref b :: av) (kB D ca A w)) av := ⟨k_blind, va_recv hK (fh_one hP he rfl) (ci := ci) (q0 := 0) hc rfl, fun _ hU hW => ⟨rfl, k_at hP hS hA hK hN hE hU hW⟩⟩
end KPRE
section KROWS
variable {p : Program} {l : Launch} {e : Env} {R : Room} {s : State} {m : MethodId} {args : Array Value} {below : List Frame} {meth : Method} {c : Code} {H H0 : Heap} {locs : List Loc} {cells slots : Nat} {Q : State → Prop} {cc : ByteArray} {pc : Nat} {ls : Array Slot} {rest : List Value} {D : va_G} {ca : Nat → Nat} {A : Nat → Prop} {w : fh_T}
theorem kla (hx : p.tables.exec = Jvm.exec) (hb : c.code = cc) (hK : va_K D vwCl (kTy ca) s) (hP : fh_ok D ca A w H) {a n : Nat} {f : Nat → Int64} (ha : w a = some (.inl (2, n, .inr (.inl f)))) {i : Int32} (hin : vp_in i n) (hdg : decode cc pc = .ok (.laload, 1)) (kk : W p l e R s m args below meth c H locs cells slots Q (F0 m (pc + 1) ls (.long (f i.toNatClampNeg) :: rest))) : W p l e R s m args below meth c H locs cells slots Q (F0 m pc ls (.int i :: .ref a :: rest)) := va_lald hx hb hK (fh_one hP ha rfl) 0 2 rfl rfl hin hdg kk
theorem kls (hx : p.tables.exec = Jvm.exec) (hb : c.code = cc) (hK : va_K D vwCl (kTy ca) s) (hP : fh_ok D ca A w H) (hS : va_S A H0 H locs) {a n : Nat} {f : Nat → Int64} (ha : w a = some (.inl (2, n, .inr (.inl f)))) {i : Int32} {x : Int64} (hin : vp_in i n) (hdg : decode cc pc = .ok (.lastore, 1)) (kk : ∀ (H1 : Heap) (locs1 : List Loc), fh_ok D ca A (fh_up w a (.inl (2, n, .inr (.inl (vp_updL f i.toNatClampNeg x))))) H1 → va_S A H0 H1 locs1 → W p l e R s m args below meth c H1 locs1 cells slots Q (F0 m (pc + 1) ls rest)) : W p l e R s m args below meth c H locs cells slots Q (F0 m pc ls (.long x :: .int i :: .ref a :: rest)) := by
  obtain ⟨ws, q0, h1, h2, h3, -, h4⟩ := fh_put hP ha rfl
  exact va_last hx hb hK h2 h3 hS q0 2 h1 rfl hin hdg (fun H1 locs1 g1 _ g3 => kk H1 locs1 (h4 _ _ rfl g1) g3)
theorem kaa (k : Nat) {C : String} (ht : (kTy ca)[k]? = some (ca k, .object C)) (hk4 : (k == 4) = false) (hx : p.tables.exec = Jvm.exec) (hb : c.code = cc) (hK : va_K D vwCl (kTy ca) s) (hP : fh_ok D ca A w H) {a n y : Nat} {f : Nat → Option Nat} (ha : w a = some (.inl (k, n, .inr (.inr (.inr (.inr f)))))) {i : Int32} (hin : vp_in i n) (hy : f i.toNatClampNeg = some y) (hdg : decode cc pc = .ok (.aaload, 1)) (kk : W p l e R s m args below meth c H locs cells slots Q (F0 m (pc + 1) ls (.ref y :: rest))) : W p l e R s m args below meth c H locs cells slots Q (F0 m pc ls (.int i :: .ref a :: rest)) := va_aldq hx hb hK (fh_one hP ha hk4) 0 k rfl ht hin hdg (by rw [hy]; exact kk)
theorem kas (k : Nat) {ci : Nat} {r : vw_C} (hc : vwCl[ci]? = some r) (ht : (kTy ca)[k]? = some (ca k, .object r.1)) (hk4 : (k == 4) = false) (hx : p.tables.exec = Jvm.exec) (hb : c.code = cc) (hK : va_K D vwCl (kTy ca) s) (hP : fh_ok D ca A w H) (hS : va_S A H0 H locs) {a n v : Nat} {fs : List Value} {f : Nat → Option Nat} (ha : w a = some (.inl (k, n, .inr (.inr (.inr (.inr f)))))) (hv : w v = some (.inr (ci, fs))) {i : Int32} (hin : vp_in i n) (hdg : decode cc pc = .ok (.aastore, 1)) (kk : ∀ (H1 : Heap) (locs1 : List Loc), fh_ok D ca A (fh_up w a (.inl (k, n, .inr (.inr (.inr (.inr (va_up f i.toNatClampNeg (some v)))))))) H1 → va_S A H0 H1 locs1 → W p l e R s m args below meth c H1 locs1 cells slots Q (F0 m (pc + 1) ls rest)) : W p l e R s m args below meth c H locs cells slots Q (F0 m pc ls (.ref v :: .int i :: .ref a :: rest)) := by
  obtain ⟨ws, q0, h1, h2, h3, h5, h4⟩ := fh_put hP ha hk4
  obtain ⟨qk, hqk⟩ := h5 v _ hv rfl
  exact va_astq hx hb hK h2 h3 hS q0 k qk ci h1 ht hqk hc hin hdg (fun H1 locs1 g1 _ g3 => kk H1 locs1 (h4 _ _ hk4 g1) g3)
theorem kan (k : Nat) {C : String} (ht : (kTy ca)[k]? = some (ca k, .object C)) (hk4 : (k == 4) = false) (hx : p.tables.exec = Jvm.exec) (hb : c.code = cc) (hK : va_K D vwCl (kTy ca) s) (hP : fh_ok D ca A w H) (hS : va_S A H0 H locs) {a n : Nat} {f : Nat → Option Nat} (ha : w a = some (.inl (k, n, .inr (.inr (.inr (.inr f)))))) {i : Int32} (hin : vp_in i n) (hdg : decode cc pc = .ok (.aastore, 1)) (kk : ∀ (H1 : Heap) (locs1 : List Loc), fh_ok D ca A (fh_up w a (.inl (k, n, .inr (.inr (.inr (.inr (va_up f i.toNatClampNeg none))))))) H1 → va_S A H0 H1 locs1 → W p l e R s m args below meth c H1 locs1 cells slots Q (F0 m (pc + 1) ls rest)) : W p l e R s m args below meth c H locs cells slots Q (F0 m pc ls (.null :: .int i :: .ref a :: rest)) := by
  obtain ⟨ws, q0, h1, h2, h3, h5, h4⟩ := fh_put hP ha hk4
  exact va_astqN hx hb hK h2 h3 hS q0 k h1 ht hin hdg (fun H1 locs1 g1 _ g3 => kk H1 locs1 (h4 _ _ hk4 g1) g3)
theorem kal (k : Nat) {ty : FieldType} (ht : (kTy ca)[k]? = some (ca k, ty)) (hk4 : (k == 4) = false) (hx : p.tables.exec = Jvm.exec) (hb : c.code = cc) (hK : va_K D vwCl (kTy ca) s) (hP : fh_ok D ca A w H) {a n : Nat} {z : (Nat → Int32) ⊕ (Nat → Int64) ⊕ (Nat → UInt32) ⊕ (Nat → UInt64) ⊕ (Nat → Option Nat)} (ha : w a = some (.inl (k, n, z))) (hdg : decode cc pc = .ok (.arraylength, 1)) (kk : W p l e R s m args below meth c H locs cells slots Q (F0 m (pc + 1) ls (.int (nI n) :: rest))) : W p l e R s m args below meth c H locs cells slots Q (F0 m pc ls (.ref a :: rest)) := va_alen hx hb hK (fh_one hP ha hk4) 0 k rfl ht rfl hdg kk
theorem kalO (hx : p.tables.exec = Jvm.exec) (hb : c.code = cc) (hK : va_K D vwCl (kTy ca) s) (hE : kE ca A s s.heap) (hS : va_S A s.heap H locs) (hP : fh_ok D ca A w H) {a n : Nat} (ha : fh_len w a n) (hdg : decode cc pc = .ok (.arraylength, 1)) (kk : W p l e R s m args below meth c H locs cells slots Q (F0 m (pc + 1) ls (.int (nI n) :: rest))) : W p l e R s m args below meth c H locs cells slots Q (F0 m pc ls (.ref a :: rest)) := by
  rcases ha with ⟨z, ha⟩ | ⟨rfl, z, ha⟩
  · exact kal 3 rfl rfl hx hb hK hP ha hdg kk
  · have h5 := (hP a _ ha).1 rfl
    subst h5
    exact va_tlen hx hb hE.1 hS rfl hdg kk
theorem kgs {own : String} {index : Nat} (hx : p.tables.exec = Jvm.exec) (hb : c.code = cc) (hown : s.vm.findClass own = some m.cls) (hlink : (Cond.fieldLink own index "java/util/ArrayList" "DEFAULTCAPACITY_EMPTY_ELEMENTDATA" "[Ljava/lang/Object;").before args s = true) (hE : kE ca A s s.heap) (hS : va_S A s.heap H locs) (hP : fh_ok D ca A w H) {a : Nat} {z : (Nat → Int32) ⊕ (Nat → Int64) ⊕ (Nat → UInt32) ⊕ (Nat → UInt64) ⊕ (Nat → Option Nat)} (ha : w a = some (.inl (4, 0, z))) (hdg : decode cc pc = .ok (.getstatic index, 3)) (kk : W p l e R s m args below meth c H locs cells slots Q (F0 m (pc + 3) ls (.ref a :: rest))) : W p l e R s m args below meth c H locs cells slots Q (F0 m pc ls rest) := by
  have h5 := (hP a _ ha).1 rfl
  subst h5
  exact va_gets hx hb hE.2 hS hown hlink (fun _ h => h) hdg kk
end KROWS
end
section
/-! more rows over the function world: new arrays, copies, casts, stores into arrays of objects -/
section KNEW
variable {p : Program} {l : Launch} {e : Env} {R : Room} {s : State} {m : MethodId} {args : Array Value} {below : List Frame} {meth : Method} {c : Code} {H H0 : Heap} {locs : List Loc} {cells slots : Nat} {Q : State → Prop} {cc : ByteArray} {pc : Nat} {ls : Array Slot} {rest : List Value} {D : va_G} {ca : Nat → Nat} {A : Nat → Prop} {w : fh_T}
theorem k_ne5 {ws : va_W} {q : Nat} {x : va_E} (hE : kE ca A s s.heap) (h : va_D A (ws ++ [(q, x)])) : ca 5 ≠ q := by
  intro e
  refine hE.out ?_
  rw [e]
  exact h.2 ws.length (q, x) (by rw [List.getElem?_append_right (Nat.le_refl _)]; simp)
theorem klnew (hx : p.tables.exec = Jvm.exec) (hb : c.code = cc) (hts : ∀ w ∈ lg_tbl, w.before args s = true) (hK : va_K D vwCl (kTy ca) s) (hE : kE ca A s s.heap) (hP : fh_ok D ca A w H) (hS : va_S A H0 H locs) (hA : ∀ q : Nat, H0.size ≤ q → A q) {n : Int32} {N' : Nat} (hn : ¬ n < 0) (hN' : n.toNatClampNeg = N') (hbytes : N' * componentBytes .long ≤ 536870912) (hc : cells + 1 ≤ R.cells) (hs : slots + N' ≤ R.slots) (hdg : decode cc pc = .ok (.newarray .long, 2)) (kk : ∀ (q : Nat) (H1 : Heap), w q = none → fh_ok D ca A (fh_up w q (.inl (2, N', .inr (.inl (fun _ => 0))))) H1 → va_S A H0 H1 locs → W p l e R s m args below meth c H1 locs (cells + 1) (slots + N') Q (F0 m (pc + 2) ls (.ref q :: rest))) : W p l e R s m args below meth c H locs cells slots Q (F0 m pc ls (.int n :: rest)) := by
  obtain ⟨ws, h1, h2, h3⟩ := fh_new hP
  have hv : ∀ cA : ClassId, vp_cell cA (N', .inr (.inl (fun _ => 0))) = arrV cA N' (fun _ => defaultValue .long) := fun _ => rfl
  refine va_newa (atype := .long) (ty := .long) (a0 := (N', .inr (.inl (fun _ => 0)))) hx hb (hts (.arrayClass .long) (fx_m (by decide +kernel))) rfl hK h1 h2 hS hA hv hn hN' hbytes hc hs hdg (fun q cA H1 g1 g2 g3 g4 => ?_)
  have f1 : s.vm.findClass ("[" ++ FieldType.long.toString) = some cA := (g1.2 4 (cA, .long) rfl).2
  have f2 : s.vm.findClass ("[" ++ FieldType.long.toString) = some (ca 2) := (hK.2 2 (ca 2, .long) rfl).2
  have e1 : cA = ca 2 := Option.some.inj (f1.symm.trans f2)
  subst e1
  have h5 := h3 q (.inl (2, N', .inr (.inl (fun _ => 0)))) H1 rfl (k_ne5 hE g3) g2 g3
  exact kk q H1 h5.2 h5.1 g4
theorem kqnew (k : Nat) {C : String} (ht : (kTy ca)[k]? = some (ca k, .object C)) (hk4 : (k == 4) = false) {own : String} {index : Nat} (hx : p.tables.exec = Jvm.exec) (hb : c.code = cc) (hown : s.vm.findClass own = some m.cls) (hlink : (Cond.classLink own index C).before args s = true) (hover : va_AO C s) (hK : va_K D vwCl (kTy ca) s) (hE : kE ca A s s.heap) (hP : fh_ok D ca A w H) (hS : va_S A H0 H locs) (hA : ∀ q : Nat, H0.size ≤ q → A q) {n : Int32} {N' : Nat} (hn : ¬ n < 0) (hN' : n.toNatClampNeg = N') (hbytes : N' * 4 ≤ 536870912) (hc : cells + 1 ≤ R.cells) (hs : slots + N' ≤ R.slots) (hdg : decode cc pc = .ok (.anewarray index, 3)) (kk : ∀ (q : Nat) (H1 : Heap), w q = none → fh_ok D ca A (fh_up w q (.inl (k, N', .inr (.inr (.inr (.inr (fun _ => none))))))) H1 → va_S A H0 H1 locs → W p l e R s m args below meth c H1 locs (cells + 1) (slots + N') Q (F0 m (pc + 3) ls (.ref q :: rest))) : W p l e R s m args below meth c H locs cells slots Q (F0 m pc ls (.int n :: rest)) := by
  obtain ⟨ws, h1, h2, h3⟩ := fh_new hP
  refine va_newq hx hb hown hlink hover hK h1 h2 hS hA hn hN' hbytes hc hs hdg (fun q cA H1 g1 g2 g3 g4 => ?_)
  obtain ⟨-, -, -, -, -, f1⟩ := (g1.2 4 _ rfl).2
  obtain ⟨-, -, -, -, -, f2⟩ := (hK.2 k _ ht).2
  have e1 : cA = ca k := Option.some.inj (f1.symm.trans f2)
  subst e1
  have h5 := h3 q (.inl (k, N', .inr (.inr (.inr (.inr (fun _ => none)))))) H1 hk4 (k_ne5 hE g3) g2 g3
  exact kk q H1 h5.2 h5.1 g4
theorem k_asg {C E : String} (hN : fx_N s) (hw : (decide (Cond.castable C E ∈ lw_tbl) && fx_isN (.castable C E)) = true) : ∀ comp c0 : ClassId, s.vm.findClass E = some comp → s.vm.findClass C = some c0 → s.vm.assignable c0 comp = true := by
  intro comp c0 h1 h2
  obtain ⟨a, b, f1, f2, f3⟩ := Cond.castable_spec (hN.use (args := #[]) hw)
  cases h2.symm.trans f1
  cases h1.symm.trans f2
  exact f3
theorem k_any (hK : va_K D vwCl (kTy ca) s) (hN : fx_N s) (hP : fh_ok D ca A w H) {v : Nat} {fs : List Value} (hv : w v = some (.inr (5, fs))) : va_Any "java/lang/Object" s H v := va_rAny hK (fh_one hP hv rfl) (q0 := 0) rfl (r := (RXOp, TXOp, 6)) rfl (k_asg hN (by decide +kernel))
theorem kasO (hx : p.tables.exec = Jvm.exec) (hb : c.code = cc) (hN : fx_N s) (hK : va_K D vwCl (kTy ca) s) (hP : fh_ok D ca A w H) (hS : va_S A H0 H locs) {a n v : Nat} {fs : List Value} {f : Nat → Option Nat} (ha : w a = some (.inl (3, n, .inr (.inr (.inr (.inr f)))))) (hv : w v = some (.inr (5, fs))) {i : Int32} (hin : vp_in i n) (hdg : decode cc pc = .ok (.aastore, 1)) (kk : ∀ (H1 : Heap) (locs1 : List Loc), fh_ok D ca A (fh_up w a (.inl (3, n, .inr (.inr (.inr (.inr (va_up f i.toNatClampNeg (some v)))))))) H1 → va_S A H0 H1 locs1 → W p l e R s m args below meth c H1 locs1 cells slots Q (F0 m (pc + 1) ls rest)) : W p l e R s m args below meth c H locs cells slots Q (F0 m pc ls (.ref v :: .int i :: .ref a :: rest)) := by
  obtain ⟨ws, q0, h1, h2, h3, h5, h4⟩ := fh_put hP ha rfl
  exact va_astqM hx hb hK h2 h3 hS q0 3 h1 rfl (k_any hK hN hP hv) hin hdg (fun H1 locs1 g1 _ g3 => kk H1 locs1 (h4 _ _ rfl g1) g3)
theorem kcast {own : String} {index : Nat} (hx : p.tables.exec = Jvm.exec) (hb : c.code = cc) (hown : s.vm.findClass own = some m.cls) (hlink : (Cond.classLink own index "HashLinkedWeb$Operation").before args s = true) (hN : fx_N s) (hK : va_K D vwCl (kTy ca) s) (hP : fh_ok D ca A w H) {a : Nat} {fs : List Value} (ha : w a = some (.inr (5, fs))) (hdg : decode cc pc = .ok (.checkcast index, 3)) (kk : W p l e R s m args below meth c H locs cells slots Q (F0 m (pc + 3) ls (.ref a :: rest))) : W p l e R s m args below meth c H locs cells slots Q (F0 m pc ls (.ref a :: rest)) := va_castY (C := "HashLinkedWeb$Operation") hx hb hown hlink (hN.use (args := #[]) (by decide +kernel)) (va_recv hK (fh_one hP ha rfl) (ci := 5) (q0 := 0) rfl rfl) hdg kk
theorem kcpO {own : String} {index : Nat} (hx : p.tables.exec = Jvm.exec) (hb : c.code = cc) (hml : c.maxLocals = ls.size) (hown : s.vm.findClass own = some m.cls) (hts : ∀ w ∈ lg_tbl, w.before args s = true) (hlink : (Cond.methodLink own index arraycopyName).before args s = true) (hN : fx_N s) (hK : va_K D vwCl (kTy ca) s) (hP : fh_ok D ca A w H) (hS : va_S A H0 H locs) {a n0 : Nat} {f : Nat → Option Nat} (ha : w a = some (.inl (3, n0, .inr (.inr (.inr (.inr f)))))) {sp dp n : Int32} (h1 : ¬ sp < 0) (h2 : ¬ dp < 0) (h3 : ¬ n < 0) (h4 : sp.toNatClampNeg + n.toNatClampNeg ≤ n0) (h5 : dp.toNatClampNeg + n.toNatClampNeg ≤ n0) (hel : ∀ i : Nat, i < n.toNatClampNeg → ∀ y : Nat, f (sp.toNatClampNeg + i) = some y → ∃ fs : List Value, w y = some (.inr (5, fs))) (hframes : 1 ≤ R.frames) (hlocals : (rest.map fun v => v.category).sum + (nativeFrameWords "java/lang/System" "arraycopy" 5 + 11) ≤ R.locals) (hdg : decode cc pc = .ok (.invokestatic index, 3))
    (kk : ∀ (H1 : Heap) (locs1 : List Loc), fh_ok D ca A (fh_up w a (.inl (3, n0, .inr (.inr (.inr (.inr (va_cpy f f sp.toNatClampNeg dp.toNatClampNeg n.toNatClampNeg))))))) H1 → va_S A H0 H1 locs1 → W p l e R s m args below meth c H1 locs1 cells slots Q (F0 m (pc + 3) ls rest)) : W p l e R s m args below meth c H locs cells slots Q (F0 m pc ls (.int n :: .int dp :: .ref a :: .int sp :: .ref a :: rest)) := by
  obtain ⟨ws, q0, g1, g2, g3, g5, g4⟩ := fh_put hP ha rfl
  refine va_copyM hx hb hml hown hlink (hts (.native arraycopyName) (fx_m (by decide +kernel))) (hts (.static arraycopyName) (fx_m (by decide +kernel))) (hts (.initialized "java/lang/System") (fx_m (by decide +kernel))) hK g2 g3 hS q0 q0 3 3 g1 g1 rfl rfl h1 h2 h3 h4 h5 (fun i hi y hy => ?_) hframes hlocals hdg (fun H1 locs1 k1 _ k3 => kk H1 locs1 (g4 _ _ rfl k1) k3)
  obtain ⟨fs, hfs⟩ := hel i hi y hy
  exact k_any hK hN hP hfs
theorem kcpL {own : String} {index : Nat} (hx : p.tables.exec = Jvm.exec) (hb : c.code = cc) (hml : c.maxLocals = ls.size) (hown : s.vm.findClass own = some m.cls) (hts : ∀ w ∈ lg_tbl, w.before args s = true) (hlink : (Cond.methodLink own index arraycopyName).before args s = true) (hK : va_K D vwCl (kTy ca) s) (hP : fh_ok D ca A w H) (hS : va_S A H0 H locs) {a0 a n0 n1 : Nat} {f g : Nat → Int64} (ha0 : w a0 = some (.inl (2, n0, .inr (.inl f)))) (ha : w a = some (.inl (2, n1, .inr (.inl g)))) {sp dp n : Int32} (h1 : ¬ sp < 0) (h2 : ¬ dp < 0) (h3 : ¬ n < 0) (h4 : sp.toNatClampNeg + n.toNatClampNeg ≤ n0) (h5 : dp.toNatClampNeg + n.toNatClampNeg ≤ n1) (hframes : 1 ≤ R.frames) (hlocals : (rest.map fun v => v.category).sum + (nativeFrameWords "java/lang/System" "arraycopy" 5 + 11) ≤ R.locals) (hdg : decode cc pc = .ok (.invokestatic index, 3))
    (kk : ∀ (H1 : Heap) (locs1 : List Loc), fh_ok D ca A (fh_up w a (.inl (2, n1, .inr (.inl (va_cpy f g sp.toNatClampNeg dp.toNatClampNeg n.toNatClampNeg))))) H1 → va_S A H0 H1 locs1 → W p l e R s m args below meth c H1 locs1 cells slots Q (F0 m (pc + 3) ls rest)) : W p l e R s m args below meth c H locs cells slots Q (F0 m pc ls (.int n :: .int dp :: .ref a :: .int sp :: .ref a0 :: rest)) := by
  obtain ⟨ws, q0, g1, g2, g3, g5, g4⟩ := fh_put hP ha rfl
  obtain ⟨q1, hq1⟩ := g5 a0 _ ha0 rfl
  exact va_copyl hx hb hml hown hlink (hts (.native arraycopyName) (fx_m (by decide +kernel))) (hts (.static arraycopyName) (fx_m (by decide +kernel))) (hts (.initialized "java/lang/System") (fx_m (by decide +kernel))) hK g2 g3 hS q1 q0 2 2 (ty := .long) hq1 g1 rfl rfl rfl h1 h2 h3 h4 h5 (fun i hi => rfl) hframes hlocals hdg (fun H1 locs1 k1 _ k3 => kk H1 locs1 (g4 _ _ rfl k1) k3)
end KNEW
end
