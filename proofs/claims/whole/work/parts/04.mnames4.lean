abbrev cXM_draft : ByteArray := prog_10_method_20_code
def yXM_draft : MethodName := ⟨RXM, "draft", "(IIII)V"⟩
set_option maxRecDepth 100000 in
theorem qXM_draft : Cond.code yXM_draft cXM_draft 5 none ∈ lg_tbl := fx_c 776 rfl
theorem hdXM_draft : yXM_draft.cls = RXM ∧ yXM_draft.cls ≠ "java/lang/invoke/MethodHandle" ∧ yXM_draft.cls ≠ "java/lang/invoke/VarHandle" ∧ (parseMethodDescriptor yXM_draft.desc).map (fun d => d.parameters.length) = some 4 := by decide +kernel
theorem dXM_draft_0 : decode cXM_draft 0 = .ok (.aload_n 0, 1) := by decide +kernel
theorem dXM_draft_1 : decode cXM_draft 1 = .ok (.getfield 53, 3) := by decide +kernel
theorem dXM_draft_4 : decode cXM_draft 4 = .ok (.iconst 0, 1) := by decide +kernel
theorem dXM_draft_5 : decode cXM_draft 5 = .ok (.iload_n 1, 1) := by decide +kernel
theorem dXM_draft_6 : decode cXM_draft 6 = .ok (.iastore, 1) := by decide +kernel
theorem dXM_draft_7 : decode cXM_draft 7 = .ok (.aload_n 0, 1) := by decide +kernel
theorem dXM_draft_8 : decode cXM_draft 8 = .ok (.getfield 53, 3) := by decide +kernel
theorem dXM_draft_11 : decode cXM_draft 11 = .ok (.iconst 1, 1) := by decide +kernel
theorem dXM_draft_12 : decode cXM_draft 12 = .ok (.iload_n 2, 1) := by decide +kernel
theorem dXM_draft_13 : decode cXM_draft 13 = .ok (.iastore, 1) := by decide +kernel
theorem dXM_draft_14 : decode cXM_draft 14 = .ok (.aload_n 0, 1) := by decide +kernel
theorem dXM_draft_15 : decode cXM_draft 15 = .ok (.getfield 53, 3) := by decide +kernel
theorem dXM_draft_18 : decode cXM_draft 18 = .ok (.iconst 2, 1) := by decide +kernel
theorem dXM_draft_19 : decode cXM_draft 19 = .ok (.iload_n 3, 1) := by decide +kernel
theorem dXM_draft_20 : decode cXM_draft 20 = .ok (.iastore, 1) := by decide +kernel
theorem dXM_draft_21 : decode cXM_draft 21 = .ok (.aload_n 0, 1) := by decide +kernel
theorem dXM_draft_22 : decode cXM_draft 22 = .ok (.getfield 53, 3) := by decide +kernel
theorem dXM_draft_25 : decode cXM_draft 25 = .ok (.iconst 3, 1) := by decide +kernel
theorem dXM_draft_26 : decode cXM_draft 26 = .ok (.iload 4, 2) := by decide +kernel
theorem dXM_draft_28 : decode cXM_draft 28 = .ok (.iastore, 1) := by decide +kernel
theorem dXM_draft_29 : decode cXM_draft 29 = .ok (.aload_n 0, 1) := by decide +kernel
theorem dXM_draft_30 : decode cXM_draft 30 = .ok (.getfield 53, 3) := by decide +kernel
theorem dXM_draft_33 : decode cXM_draft 33 = .ok (.iconst 4, 1) := by decide +kernel
theorem dXM_draft_34 : decode cXM_draft 34 = .ok (.iconst 0, 1) := by decide +kernel
theorem dXM_draft_35 : decode cXM_draft 35 = .ok (.iastore, 1) := by decide +kernel
theorem dXM_draft_36 : decode cXM_draft 36 = .ok (.return_, 1) := by decide +kernel
abbrev cXM_link : ByteArray := prog_10_method_21_code
def yXM_link : MethodName := ⟨RXM, "link", "(J)Z"⟩
set_option maxRecDepth 100000 in
theorem qXM_link : Cond.code yXM_link cXM_link 3 (some .boolean) ∈ lg_tbl := fx_c 780 rfl
theorem hdXM_link : yXM_link.cls = RXM ∧ yXM_link.cls ≠ "java/lang/invoke/MethodHandle" ∧ yXM_link.cls ≠ "java/lang/invoke/VarHandle" ∧ (parseMethodDescriptor yXM_link.desc).map (fun d => d.parameters.length) = some 1 := by decide +kernel
theorem dXM_link_0 : decode cXM_link 0 = .ok (.aload_n 0, 1) := by decide +kernel
theorem dXM_link_1 : decode cXM_link 1 = .ok (.getfield 53, 3) := by decide +kernel
theorem dXM_link_4 : decode cXM_link 4 = .ok (.iconst 4, 1) := by decide +kernel
theorem dXM_link_5 : decode cXM_link 5 = .ok (.iaload, 1) := by decide +kernel
theorem dXM_link_6 : decode cXM_link 6 = .ok (.iconst 4, 1) := by decide +kernel
theorem dXM_link_7 : decode cXM_link 7 = .ok (.if_icmp .ne 5, 3) := by decide +kernel
theorem dXM_link_10 : decode cXM_link 10 = .ok (.iconst 0, 1) := by decide +kernel
theorem dXM_link_11 : decode cXM_link 11 = .ok (.ireturn, 1) := by decide +kernel
theorem dXM_link_12 : decode cXM_link 12 = .ok (.aload_n 0, 1) := by decide +kernel
theorem dXM_link_13 : decode cXM_link 13 = .ok (.getfield 56, 3) := by decide +kernel
theorem dXM_link_16 : decode cXM_link 16 = .ok (.aload_n 0, 1) := by decide +kernel
theorem dXM_link_17 : decode cXM_link 17 = .ok (.getfield 53, 3) := by decide +kernel
theorem dXM_link_20 : decode cXM_link 20 = .ok (.iconst 4, 1) := by decide +kernel
theorem dXM_link_21 : decode cXM_link 21 = .ok (.iaload, 1) := by decide +kernel
theorem dXM_link_22 : decode cXM_link 22 = .ok (.lload_n 1, 1) := by decide +kernel
theorem dXM_link_23 : decode cXM_link 23 = .ok (.lastore, 1) := by decide +kernel
theorem dXM_link_24 : decode cXM_link 24 = .ok (.aload_n 0, 1) := by decide +kernel
theorem dXM_link_25 : decode cXM_link 25 = .ok (.getfield 53, 3) := by decide +kernel
theorem dXM_link_28 : decode cXM_link 28 = .ok (.iconst 4, 1) := by decide +kernel
theorem dXM_link_29 : decode cXM_link 29 = .ok (.dup2, 1) := by decide +kernel
theorem dXM_link_30 : decode cXM_link 30 = .ok (.iaload, 1) := by decide +kernel
theorem dXM_link_31 : decode cXM_link 31 = .ok (.iconst 1, 1) := by decide +kernel
theorem dXM_link_32 : decode cXM_link 32 = .ok (.iadd, 1) := by decide +kernel
theorem dXM_link_33 : decode cXM_link 33 = .ok (.iastore, 1) := by decide +kernel
theorem dXM_link_34 : decode cXM_link 34 = .ok (.iconst 1, 1) := by decide +kernel
theorem dXM_link_35 : decode cXM_link 35 = .ok (.ireturn, 1) := by decide +kernel
abbrev cXM_draftHash : ByteArray := prog_10_method_22_code
def yXM_draftHash : MethodName := ⟨RXM, "draftHash", "()J"⟩
set_option maxRecDepth 100000 in
theorem qXM_draftHash : Cond.code yXM_draftHash cXM_draftHash 1 (some .long) ∈ lg_tbl := fx_c 784 rfl
theorem hdXM_draftHash : yXM_draftHash.cls = RXM ∧ yXM_draftHash.cls ≠ "java/lang/invoke/MethodHandle" ∧ yXM_draftHash.cls ≠ "java/lang/invoke/VarHandle" ∧ (parseMethodDescriptor yXM_draftHash.desc).map (fun d => d.parameters.length) = some 0 := by decide +kernel
theorem dXM_draftHash_0 : decode cXM_draftHash 0 = .ok (.aload_n 0, 1) := by decide +kernel
theorem dXM_draftHash_1 : decode cXM_draftHash 1 = .ok (.getfield 53, 3) := by decide +kernel
theorem dXM_draftHash_4 : decode cXM_draftHash 4 = .ok (.aload_n 0, 1) := by decide +kernel
theorem dXM_draftHash_5 : decode cXM_draftHash 5 = .ok (.getfield 56, 3) := by decide +kernel
theorem dXM_draftHash_8 : decode cXM_draftHash 8 = .ok (.invokestatic 141, 3) := by decide +kernel
theorem dXM_draftHash_11 : decode cXM_draftHash 11 = .ok (.lreturn, 1) := by decide +kernel
abbrev cXM_offer : ByteArray := prog_10_method_23_code
def yXM_offer : MethodName := ⟨RXM, "offer", "(I)I"⟩
set_option maxRecDepth 100000 in
theorem qXM_offer : Cond.code yXM_offer cXM_offer 3 (some .int) ∈ lg_tbl := fx_c 788 rfl
theorem hdXM_offer : yXM_offer.cls = RXM ∧ yXM_offer.cls ≠ "java/lang/invoke/MethodHandle" ∧ yXM_offer.cls ≠ "java/lang/invoke/VarHandle" ∧ (parseMethodDescriptor yXM_offer.desc).map (fun d => d.parameters.length) = some 1 := by decide +kernel
theorem dXM_offer_0 : decode cXM_offer 0 = .ok (.iload_n 1, 1) := by decide +kernel
theorem dXM_offer_1 : decode cXM_offer 1 = .ok (.invokestatic 132, 3) := by decide +kernel
theorem dXM_offer_4 : decode cXM_offer 4 = .ok (.ifCond .ne 5, 3) := by decide +kernel
theorem dXM_offer_7 : decode cXM_offer 7 = .ok (.iconst (-1), 1) := by decide +kernel
theorem dXM_offer_8 : decode cXM_offer 8 = .ok (.ireturn, 1) := by decide +kernel
theorem dXM_offer_9 : decode cXM_offer 9 = .ok (.iconst 0, 1) := by decide +kernel
theorem dXM_offer_10 : decode cXM_offer 10 = .ok (.istore_n 2, 1) := by decide +kernel
theorem dXM_offer_11 : decode cXM_offer 11 = .ok (.iload_n 2, 1) := by decide +kernel
theorem dXM_offer_12 : decode cXM_offer 12 = .ok (.iconst 5, 1) := by decide +kernel
theorem dXM_offer_13 : decode cXM_offer 13 = .ok (.if_icmp .ge 21, 3) := by decide +kernel
theorem dXM_offer_16 : decode cXM_offer 16 = .ok (.aload_n 0, 1) := by decide +kernel
theorem dXM_offer_17 : decode cXM_offer 17 = .ok (.getfield 59, 3) := by decide +kernel
theorem dXM_offer_20 : decode cXM_offer 20 = .ok (.iload_n 2, 1) := by decide +kernel
theorem dXM_offer_21 : decode cXM_offer 21 = .ok (.aload_n 0, 1) := by decide +kernel
theorem dXM_offer_22 : decode cXM_offer 22 = .ok (.getfield 53, 3) := by decide +kernel
theorem dXM_offer_25 : decode cXM_offer 25 = .ok (.iload_n 2, 1) := by decide +kernel
theorem dXM_offer_26 : decode cXM_offer 26 = .ok (.iaload, 1) := by decide +kernel
theorem dXM_offer_27 : decode cXM_offer 27 = .ok (.iastore, 1) := by decide +kernel
theorem dXM_offer_28 : decode cXM_offer 28 = .ok (.iinc 2 1, 3) := by decide +kernel
theorem dXM_offer_31 : decode cXM_offer 31 = .ok (.goto (-20), 3) := by decide +kernel
theorem dXM_offer_34 : decode cXM_offer 34 = .ok (.iconst 0, 1) := by decide +kernel
theorem dXM_offer_35 : decode cXM_offer 35 = .ok (.istore_n 2, 1) := by decide +kernel
theorem dXM_offer_36 : decode cXM_offer 36 = .ok (.iload_n 2, 1) := by decide +kernel
theorem dXM_offer_37 : decode cXM_offer 37 = .ok (.iconst 4, 1) := by decide +kernel
theorem dXM_offer_38 : decode cXM_offer 38 = .ok (.if_icmp .ge 21, 3) := by decide +kernel
theorem dXM_offer_41 : decode cXM_offer 41 = .ok (.aload_n 0, 1) := by decide +kernel
theorem dXM_offer_42 : decode cXM_offer 42 = .ok (.getfield 62, 3) := by decide +kernel
theorem dXM_offer_45 : decode cXM_offer 45 = .ok (.iload_n 2, 1) := by decide +kernel
theorem dXM_offer_46 : decode cXM_offer 46 = .ok (.aload_n 0, 1) := by decide +kernel
theorem dXM_offer_47 : decode cXM_offer 47 = .ok (.getfield 56, 3) := by decide +kernel
theorem dXM_offer_50 : decode cXM_offer 50 = .ok (.iload_n 2, 1) := by decide +kernel
theorem dXM_offer_51 : decode cXM_offer 51 = .ok (.laload, 1) := by decide +kernel
theorem dXM_offer_52 : decode cXM_offer 52 = .ok (.lastore, 1) := by decide +kernel
theorem dXM_offer_53 : decode cXM_offer 53 = .ok (.iinc 2 1, 3) := by decide +kernel
theorem dXM_offer_56 : decode cXM_offer 56 = .ok (.goto (-20), 3) := by decide +kernel
theorem dXM_offer_59 : decode cXM_offer 59 = .ok (.aload_n 0, 1) := by decide +kernel
theorem dXM_offer_60 : decode cXM_offer 60 = .ok (.aload_n 0, 1) := by decide +kernel
theorem dXM_offer_61 : decode cXM_offer 61 = .ok (.invokevirtual 148, 3) := by decide +kernel
theorem dXM_offer_64 : decode cXM_offer 64 = .ok (.putfield 80, 3) := by decide +kernel
theorem dXM_offer_67 : decode cXM_offer 67 = .ok (.aload_n 0, 1) := by decide +kernel
theorem dXM_offer_68 : decode cXM_offer 68 = .ok (.iload_n 1, 1) := by decide +kernel
theorem dXM_offer_69 : decode cXM_offer 69 = .ok (.invokevirtual 145, 3) := by decide +kernel
theorem dXM_offer_72 : decode cXM_offer 72 = .ok (.ireturn, 1) := by decide +kernel
abbrev cXM_linkSet : ByteArray := prog_10_method_25_code
def yXM_linkSet : MethodName := ⟨RXM, "linkSet", "(J)J"⟩
set_option maxRecDepth 100000 in
theorem qXM_linkSet : Cond.code yXM_linkSet cXM_linkSet 7 (some .long) ∈ lg_tbl := fx_c 797 rfl
theorem hdXM_linkSet : yXM_linkSet.cls = RXM ∧ yXM_linkSet.cls ≠ "java/lang/invoke/MethodHandle" ∧ yXM_linkSet.cls ≠ "java/lang/invoke/VarHandle" ∧ (parseMethodDescriptor yXM_linkSet.desc).map (fun d => d.parameters.length) = some 1 := by decide +kernel
theorem dXM_linkSet_0 : decode cXM_linkSet 0 = .ok (.lconst 0, 1) := by decide +kernel
theorem dXM_linkSet_1 : decode cXM_linkSet 1 = .ok (.lstore_n 3, 1) := by decide +kernel
theorem dXM_linkSet_2 : decode cXM_linkSet 2 = .ok (.iconst 0, 1) := by decide +kernel
theorem dXM_linkSet_3 : decode cXM_linkSet 3 = .ok (.istore 5, 2) := by decide +kernel
theorem dXM_linkSet_5 : decode cXM_linkSet 5 = .ok (.iload 5, 2) := by decide +kernel
theorem dXM_linkSet_7 : decode cXM_linkSet 7 = .ok (.aload_n 0, 1) := by decide +kernel
theorem dXM_linkSet_8 : decode cXM_linkSet 8 = .ok (.getfield 76, 3) := by decide +kernel
theorem dXM_linkSet_11 : decode cXM_linkSet 11 = .ok (.if_icmp .ge 60, 3) := by decide +kernel
theorem dXM_linkSet_14 : decode cXM_linkSet 14 = .ok (.iconst 0, 1) := by decide +kernel
theorem dXM_linkSet_15 : decode cXM_linkSet 15 = .ok (.istore 6, 2) := by decide +kernel
theorem dXM_linkSet_17 : decode cXM_linkSet 17 = .ok (.iload 6, 2) := by decide +kernel
theorem dXM_linkSet_19 : decode cXM_linkSet 19 = .ok (.aload_n 0, 1) := by decide +kernel
theorem dXM_linkSet_20 : decode cXM_linkSet 20 = .ok (.getfield 26, 3) := by decide +kernel
theorem dXM_linkSet_23 : decode cXM_linkSet 23 = .ok (.iload 5, 2) := by decide +kernel
theorem dXM_linkSet_25 : decode cXM_linkSet 25 = .ok (.iaload, 1) := by decide +kernel
theorem dXM_linkSet_26 : decode cXM_linkSet 26 = .ok (.if_icmp .ge 39, 3) := by decide +kernel
theorem dXM_linkSet_29 : decode cXM_linkSet 29 = .ok (.lload_n 1, 1) := by decide +kernel
theorem dXM_linkSet_30 : decode cXM_linkSet 30 = .ok (.iload 5, 2) := by decide +kernel
theorem dXM_linkSet_32 : decode cXM_linkSet 32 = .ok (.invokestatic 88, 3) := by decide +kernel
theorem dXM_linkSet_35 : decode cXM_linkSet 35 = .ok (.ifCond .eq 30, 3) := by decide +kernel
theorem dXM_linkSet_38 : decode cXM_linkSet 38 = .ok (.lload_n 3, 1) := by decide +kernel
theorem dXM_linkSet_39 : decode cXM_linkSet 39 = .ok (.lconst 1, 1) := by decide +kernel
theorem dXM_linkSet_40 : decode cXM_linkSet 40 = .ok (.aload_n 0, 1) := by decide +kernel
theorem dXM_linkSet_41 : decode cXM_linkSet 41 = .ok (.aload_n 0, 1) := by decide +kernel
theorem dXM_linkSet_42 : decode cXM_linkSet 42 = .ok (.getfield 29, 3) := by decide +kernel
theorem dXM_linkSet_45 : decode cXM_linkSet 45 = .ok (.iconst 4, 1) := by decide +kernel
theorem dXM_linkSet_46 : decode cXM_linkSet 46 = .ok (.iload 5, 2) := by decide +kernel
theorem dXM_linkSet_48 : decode cXM_linkSet 48 = .ok (.imul, 1) := by decide +kernel
theorem dXM_linkSet_49 : decode cXM_linkSet 49 = .ok (.iload 6, 2) := by decide +kernel
theorem dXM_linkSet_51 : decode cXM_linkSet 51 = .ok (.iadd, 1) := by decide +kernel
theorem dXM_linkSet_52 : decode cXM_linkSet 52 = .ok (.laload, 1) := by decide +kernel
theorem dXM_linkSet_53 : decode cXM_linkSet 53 = .ok (.invokevirtual 84, 3) := by decide +kernel
theorem dXM_linkSet_56 : decode cXM_linkSet 56 = .ok (.lshl, 1) := by decide +kernel
theorem dXM_linkSet_57 : decode cXM_linkSet 57 = .ok (.lor, 1) := by decide +kernel
theorem dXM_linkSet_58 : decode cXM_linkSet 58 = .ok (.lstore_n 3, 1) := by decide +kernel
theorem dXM_linkSet_59 : decode cXM_linkSet 59 = .ok (.iinc 6 1, 3) := by decide +kernel
theorem dXM_linkSet_62 : decode cXM_linkSet 62 = .ok (.goto (-45), 3) := by decide +kernel
theorem dXM_linkSet_65 : decode cXM_linkSet 65 = .ok (.iinc 5 1, 3) := by decide +kernel
theorem dXM_linkSet_68 : decode cXM_linkSet 68 = .ok (.goto (-63), 3) := by decide +kernel
theorem dXM_linkSet_71 : decode cXM_linkSet 71 = .ok (.lload_n 3, 1) := by decide +kernel
theorem dXM_linkSet_72 : decode cXM_linkSet 72 = .ok (.lreturn, 1) := by decide +kernel
abbrev cXM_bring : ByteArray := prog_10_method_26_code
def yXM_bring : MethodName := ⟨RXM, "bring", "(IJ)V"⟩
set_option maxRecDepth 100000 in
theorem qXM_bring : Cond.code yXM_bring cXM_bring 5 none ∈ lg_tbl := fx_c 801 rfl
theorem hdXM_bring : yXM_bring.cls = RXM ∧ yXM_bring.cls ≠ "java/lang/invoke/MethodHandle" ∧ yXM_bring.cls ≠ "java/lang/invoke/VarHandle" ∧ (parseMethodDescriptor yXM_bring.desc).map (fun d => d.parameters.length) = some 2 := by decide +kernel
theorem dXM_bring_0 : decode cXM_bring 0 = .ok (.aload_n 0, 1) := by decide +kernel
theorem dXM_bring_1 : decode cXM_bring 1 = .ok (.lload_n 2, 1) := by decide +kernel
theorem dXM_bring_2 : decode cXM_bring 2 = .ok (.iconst 1, 1) := by decide +kernel
theorem dXM_bring_3 : decode cXM_bring 3 = .ok (.invokevirtual 153, 3) := by decide +kernel
theorem dXM_bring_6 : decode cXM_bring 6 = .ok (.iconst 0, 1) := by decide +kernel
theorem dXM_bring_7 : decode cXM_bring 7 = .ok (.istore 4, 2) := by decide +kernel
theorem dXM_bring_9 : decode cXM_bring 9 = .ok (.iload 4, 2) := by decide +kernel
theorem dXM_bring_11 : decode cXM_bring 11 = .ok (.aload_n 0, 1) := by decide +kernel
theorem dXM_bring_12 : decode cXM_bring 12 = .ok (.getfield 138, 3) := by decide +kernel
theorem dXM_bring_15 : decode cXM_bring 15 = .ok (.if_icmp .ge 32, 3) := by decide +kernel
theorem dXM_bring_18 : decode cXM_bring 18 = .ok (.aload_n 0, 1) := by decide +kernel
theorem dXM_bring_19 : decode cXM_bring 19 = .ok (.aload_n 0, 1) := by decide +kernel
theorem dXM_bring_20 : decode cXM_bring 20 = .ok (.getfield 65, 3) := by decide +kernel
theorem dXM_bring_23 : decode cXM_bring 23 = .ok (.iload 4, 2) := by decide +kernel
theorem dXM_bring_25 : decode cXM_bring 25 = .ok (.iaload, 1) := by decide +kernel
theorem dXM_bring_26 : decode cXM_bring 26 = .ok (.invokevirtual 104, 3) := by decide +kernel
theorem dXM_bring_29 : decode cXM_bring 29 = .ok (.aload_n 0, 1) := by decide +kernel
theorem dXM_bring_30 : decode cXM_bring 30 = .ok (.iload_n 1, 1) := by decide +kernel
theorem dXM_bring_31 : decode cXM_bring 31 = .ok (.invokevirtual 145, 3) := by decide +kernel
theorem dXM_bring_34 : decode cXM_bring 34 = .ok (.pop, 1) := by decide +kernel
theorem dXM_bring_35 : decode cXM_bring 35 = .ok (.aload_n 0, 1) := by decide +kernel
theorem dXM_bring_36 : decode cXM_bring 36 = .ok (.lload_n 2, 1) := by decide +kernel
theorem dXM_bring_37 : decode cXM_bring 37 = .ok (.iconst 1, 1) := by decide +kernel
theorem dXM_bring_38 : decode cXM_bring 38 = .ok (.invokevirtual 153, 3) := by decide +kernel
theorem dXM_bring_41 : decode cXM_bring 41 = .ok (.iinc 4 1, 3) := by decide +kernel
theorem dXM_bring_44 : decode cXM_bring 44 = .ok (.goto (-35), 3) := by decide +kernel
theorem dXM_bring_47 : decode cXM_bring 47 = .ok (.return_, 1) := by decide +kernel
abbrev cXM_meet : ByteArray := prog_10_method_27_code
def yXM_meet : MethodName := ⟨RXM, "meet", "(II)I"⟩
set_option maxRecDepth 100000 in
theorem qXM_meet : Cond.code yXM_meet cXM_meet 17 (some .int) ∈ lg_tbl := fx_c 793 rfl
theorem hdXM_meet : yXM_meet.cls = RXM ∧ yXM_meet.cls ≠ "java/lang/invoke/MethodHandle" ∧ yXM_meet.cls ≠ "java/lang/invoke/VarHandle" ∧ (parseMethodDescriptor yXM_meet.desc).map (fun d => d.parameters.length) = some 2 := by decide +kernel
theorem dXM_meet_0 : decode cXM_meet 0 = .ok (.iload_n 1, 1) := by decide +kernel
theorem dXM_meet_1 : decode cXM_meet 1 = .ok (.invokestatic 132, 3) := by decide +kernel
theorem dXM_meet_4 : decode cXM_meet 4 = .ok (.ifCond .eq 15, 3) := by decide +kernel
theorem dXM_meet_7 : decode cXM_meet 7 = .ok (.iload_n 2, 1) := by decide +kernel
theorem dXM_meet_8 : decode cXM_meet 8 = .ok (.invokestatic 132, 3) := by decide +kernel
theorem dXM_meet_11 : decode cXM_meet 11 = .ok (.ifCond .eq 8, 3) := by decide +kernel
theorem dXM_meet_14 : decode cXM_meet 14 = .ok (.iload_n 1, 1) := by decide +kernel
theorem dXM_meet_15 : decode cXM_meet 15 = .ok (.iload_n 2, 1) := by decide +kernel
theorem dXM_meet_16 : decode cXM_meet 16 = .ok (.if_icmp .ne 5, 3) := by decide +kernel
theorem dXM_meet_19 : decode cXM_meet 19 = .ok (.iconst (-1), 1) := by decide +kernel
theorem dXM_meet_20 : decode cXM_meet 20 = .ok (.ireturn, 1) := by decide +kernel
theorem dXM_meet_21 : decode cXM_meet 21 = .ok (.aload_n 0, 1) := by decide +kernel
theorem dXM_meet_22 : decode cXM_meet 22 = .ok (.iload_n 2, 1) := by decide +kernel
theorem dXM_meet_23 : decode cXM_meet 23 = .ok (.invokevirtual 157, 3) := by decide +kernel
theorem dXM_meet_26 : decode cXM_meet 26 = .ok (.lstore_n 3, 1) := by decide +kernel
theorem dXM_meet_27 : decode cXM_meet 27 = .ok (.aload_n 0, 1) := by decide +kernel
theorem dXM_meet_28 : decode cXM_meet 28 = .ok (.iload_n 1, 1) := by decide +kernel
theorem dXM_meet_29 : decode cXM_meet 29 = .ok (.invokevirtual 157, 3) := by decide +kernel
theorem dXM_meet_32 : decode cXM_meet 32 = .ok (.lstore 5, 2) := by decide +kernel
theorem dXM_meet_34 : decode cXM_meet 34 = .ok (.lconst 0, 1) := by decide +kernel
theorem dXM_meet_35 : decode cXM_meet 35 = .ok (.lstore 7, 2) := by decide +kernel
theorem dXM_meet_37 : decode cXM_meet 37 = .ok (.lconst 0, 1) := by decide +kernel
theorem dXM_meet_38 : decode cXM_meet 38 = .ok (.lstore 9, 2) := by decide +kernel
theorem dXM_meet_40 : decode cXM_meet 40 = .ok (.iconst 0, 1) := by decide +kernel
theorem dXM_meet_41 : decode cXM_meet 41 = .ok (.istore 11, 2) := by decide +kernel
theorem dXM_meet_43 : decode cXM_meet 43 = .ok (.iconst 1, 1) := by decide +kernel
theorem dXM_meet_44 : decode cXM_meet 44 = .ok (.istore 12, 2) := by decide +kernel
theorem dXM_meet_46 : decode cXM_meet 46 = .ok (.iload 12, 2) := by decide +kernel
theorem dXM_meet_48 : decode cXM_meet 48 = .ok (.ifCond .eq 120, 3) := by decide +kernel
theorem dXM_meet_51 : decode cXM_meet 51 = .ok (.lload_n 3, 1) := by decide +kernel
theorem dXM_meet_52 : decode cXM_meet 52 = .ok (.aload_n 0, 1) := by decide +kernel
theorem dXM_meet_53 : decode cXM_meet 53 = .ok (.getfield 38, 3) := by decide +kernel
theorem dXM_meet_56 : decode cXM_meet 56 = .ok (.iload_n 1, 1) := by decide +kernel
theorem dXM_meet_57 : decode cXM_meet 57 = .ok (.laload, 1) := by decide +kernel
theorem dXM_meet_58 : decode cXM_meet 58 = .ok (.ldc2_w 151, 3) := by decide +kernel
theorem dXM_meet_61 : decode cXM_meet 61 = .ok (.lxor, 1) := by decide +kernel
theorem dXM_meet_62 : decode cXM_meet 62 = .ok (.land, 1) := by decide +kernel
theorem dXM_meet_63 : decode cXM_meet 63 = .ok (.lload 7, 2) := by decide +kernel
theorem dXM_meet_65 : decode cXM_meet 65 = .ok (.ldc2_w 151, 3) := by decide +kernel
theorem dXM_meet_68 : decode cXM_meet 68 = .ok (.lxor, 1) := by decide +kernel
theorem dXM_meet_69 : decode cXM_meet 69 = .ok (.land, 1) := by decide +kernel
theorem dXM_meet_70 : decode cXM_meet 70 = .ok (.lstore 13, 2) := by decide +kernel
theorem dXM_meet_72 : decode cXM_meet 72 = .ok (.lload 5, 2) := by decide +kernel
theorem dXM_meet_74 : decode cXM_meet 74 = .ok (.aload_n 0, 1) := by decide +kernel
theorem dXM_meet_75 : decode cXM_meet 75 = .ok (.getfield 38, 3) := by decide +kernel
theorem dXM_meet_78 : decode cXM_meet 78 = .ok (.iload_n 2, 1) := by decide +kernel
theorem dXM_meet_79 : decode cXM_meet 79 = .ok (.laload, 1) := by decide +kernel
theorem dXM_meet_80 : decode cXM_meet 80 = .ok (.ldc2_w 151, 3) := by decide +kernel
theorem dXM_meet_83 : decode cXM_meet 83 = .ok (.lxor, 1) := by decide +kernel
theorem dXM_meet_84 : decode cXM_meet 84 = .ok (.land, 1) := by decide +kernel
theorem dXM_meet_85 : decode cXM_meet 85 = .ok (.lload 9, 2) := by decide +kernel
theorem dXM_meet_87 : decode cXM_meet 87 = .ok (.ldc2_w 151, 3) := by decide +kernel
theorem dXM_meet_90 : decode cXM_meet 90 = .ok (.lxor, 1) := by decide +kernel
theorem dXM_meet_91 : decode cXM_meet 91 = .ok (.land, 1) := by decide +kernel
theorem dXM_meet_92 : decode cXM_meet 92 = .ok (.lstore 15, 2) := by decide +kernel
theorem dXM_meet_94 : decode cXM_meet 94 = .ok (.lload 13, 2) := by decide +kernel
theorem dXM_meet_96 : decode cXM_meet 96 = .ok (.lconst 0, 1) := by decide +kernel
theorem dXM_meet_97 : decode cXM_meet 97 = .ok (.lcmp, 1) := by decide +kernel
theorem dXM_meet_98 : decode cXM_meet 98 = .ok (.ifCond .ne 10, 3) := by decide +kernel
theorem dXM_meet_101 : decode cXM_meet 101 = .ok (.lload 15, 2) := by decide +kernel
theorem dXM_meet_103 : decode cXM_meet 103 = .ok (.lconst 0, 1) := by decide +kernel
theorem dXM_meet_104 : decode cXM_meet 104 = .ok (.lcmp, 1) := by decide +kernel
theorem dXM_meet_105 : decode cXM_meet 105 = .ok (.ifCond .eq 7, 3) := by decide +kernel
theorem dXM_meet_108 : decode cXM_meet 108 = .ok (.iconst 1, 1) := by decide +kernel
theorem dXM_meet_109 : decode cXM_meet 109 = .ok (.goto 4, 3) := by decide +kernel
theorem dXM_meet_112 : decode cXM_meet 112 = .ok (.iconst 0, 1) := by decide +kernel
theorem dXM_meet_113 : decode cXM_meet 113 = .ok (.istore 12, 2) := by decide +kernel
theorem dXM_meet_115 : decode cXM_meet 115 = .ok (.iload 12, 2) := by decide +kernel
theorem dXM_meet_117 : decode cXM_meet 117 = .ok (.ifCond .eq 10, 3) := by decide +kernel
theorem dXM_meet_120 : decode cXM_meet 120 = .ok (.iload 11, 2) := by decide +kernel
theorem dXM_meet_122 : decode cXM_meet 122 = .ok (.iconst 1, 1) := by decide +kernel
theorem dXM_meet_123 : decode cXM_meet 123 = .ok (.iadd, 1) := by decide +kernel
theorem dXM_meet_124 : decode cXM_meet 124 = .ok (.goto 5, 3) := by decide +kernel
theorem dXM_meet_127 : decode cXM_meet 127 = .ok (.iload 11, 2) := by decide +kernel
theorem dXM_meet_129 : decode cXM_meet 129 = .ok (.istore 11, 2) := by decide +kernel
theorem dXM_meet_131 : decode cXM_meet 131 = .ok (.lload 7, 2) := by decide +kernel
theorem dXM_meet_133 : decode cXM_meet 133 = .ok (.lload 13, 2) := by decide +kernel
theorem dXM_meet_135 : decode cXM_meet 135 = .ok (.lor, 1) := by decide +kernel
theorem dXM_meet_136 : decode cXM_meet 136 = .ok (.lstore 7, 2) := by decide +kernel
theorem dXM_meet_138 : decode cXM_meet 138 = .ok (.lload 9, 2) := by decide +kernel
theorem dXM_meet_140 : decode cXM_meet 140 = .ok (.lload 15, 2) := by decide +kernel
theorem dXM_meet_142 : decode cXM_meet 142 = .ok (.lor, 1) := by decide +kernel
theorem dXM_meet_143 : decode cXM_meet 143 = .ok (.lstore 9, 2) := by decide +kernel
theorem dXM_meet_145 : decode cXM_meet 145 = .ok (.lload_n 3, 1) := by decide +kernel
theorem dXM_meet_146 : decode cXM_meet 146 = .ok (.aload_n 0, 1) := by decide +kernel
theorem dXM_meet_147 : decode cXM_meet 147 = .ok (.lload 13, 2) := by decide +kernel
theorem dXM_meet_149 : decode cXM_meet 149 = .ok (.invokevirtual 161, 3) := by decide +kernel
theorem dXM_meet_152 : decode cXM_meet 152 = .ok (.lor, 1) := by decide +kernel
theorem dXM_meet_153 : decode cXM_meet 153 = .ok (.lstore_n 3, 1) := by decide +kernel
theorem dXM_meet_154 : decode cXM_meet 154 = .ok (.lload 5, 2) := by decide +kernel
theorem dXM_meet_156 : decode cXM_meet 156 = .ok (.aload_n 0, 1) := by decide +kernel
theorem dXM_meet_157 : decode cXM_meet 157 = .ok (.lload 15, 2) := by decide +kernel
theorem dXM_meet_159 : decode cXM_meet 159 = .ok (.invokevirtual 161, 3) := by decide +kernel
theorem dXM_meet_162 : decode cXM_meet 162 = .ok (.lor, 1) := by decide +kernel
theorem dXM_meet_163 : decode cXM_meet 163 = .ok (.lstore 5, 2) := by decide +kernel
theorem dXM_meet_165 : decode cXM_meet 165 = .ok (.goto (-119), 3) := by decide +kernel
theorem dXM_meet_168 : decode cXM_meet 168 = .ok (.aload_n 0, 1) := by decide +kernel
theorem dXM_meet_169 : decode cXM_meet 169 = .ok (.iload_n 1, 1) := by decide +kernel
theorem dXM_meet_170 : decode cXM_meet 170 = .ok (.lload 7, 2) := by decide +kernel
theorem dXM_meet_172 : decode cXM_meet 172 = .ok (.invokevirtual 165, 3) := by decide +kernel
theorem dXM_meet_175 : decode cXM_meet 175 = .ok (.aload_n 0, 1) := by decide +kernel
theorem dXM_meet_176 : decode cXM_meet 176 = .ok (.iload_n 2, 1) := by decide +kernel
theorem dXM_meet_177 : decode cXM_meet 177 = .ok (.lload 9, 2) := by decide +kernel
theorem dXM_meet_179 : decode cXM_meet 179 = .ok (.invokevirtual 165, 3) := by decide +kernel
theorem dXM_meet_182 : decode cXM_meet 182 = .ok (.iload 11, 2) := by decide +kernel
theorem dXM_meet_184 : decode cXM_meet 184 = .ok (.ireturn, 1) := by decide +kernel
abbrev cXM_drop : ByteArray := prog_10_method_28_code
def yXM_drop : MethodName := ⟨RXM, "drop", "(I)I"⟩
set_option maxRecDepth 100000 in
theorem qXM_drop : Cond.code yXM_drop cXM_drop 3 (some .int) ∈ lg_tbl := fx_c 805 rfl
theorem hdXM_drop : yXM_drop.cls = RXM ∧ yXM_drop.cls ≠ "java/lang/invoke/MethodHandle" ∧ yXM_drop.cls ≠ "java/lang/invoke/VarHandle" ∧ (parseMethodDescriptor yXM_drop.desc).map (fun d => d.parameters.length) = some 1 := by decide +kernel
theorem dXM_drop_0 : decode cXM_drop 0 = .ok (.iload_n 1, 1) := by decide +kernel
theorem dXM_drop_1 : decode cXM_drop 1 = .ok (.invokestatic 132, 3) := by decide +kernel
theorem dXM_drop_4 : decode cXM_drop 4 = .ok (.ifCond .ne 5, 3) := by decide +kernel
theorem dXM_drop_7 : decode cXM_drop 7 = .ok (.iconst (-1), 1) := by decide +kernel
theorem dXM_drop_8 : decode cXM_drop 8 = .ok (.ireturn, 1) := by decide +kernel
theorem dXM_drop_9 : decode cXM_drop 9 = .ok (.aload_n 0, 1) := by decide +kernel
theorem dXM_drop_10 : decode cXM_drop 10 = .ok (.getfield 41, 3) := by decide +kernel
theorem dXM_drop_13 : decode cXM_drop 13 = .ok (.iload_n 1, 1) := by decide +kernel
theorem dXM_drop_14 : decode cXM_drop 14 = .ok (.iaload, 1) := by decide +kernel
theorem dXM_drop_15 : decode cXM_drop 15 = .ok (.istore_n 2, 1) := by decide +kernel
theorem dXM_drop_16 : decode cXM_drop 16 = .ok (.aload_n 0, 1) := by decide +kernel
theorem dXM_drop_17 : decode cXM_drop 17 = .ok (.getfield 41, 3) := by decide +kernel
theorem dXM_drop_20 : decode cXM_drop 20 = .ok (.iload_n 1, 1) := by decide +kernel
theorem dXM_drop_21 : decode cXM_drop 21 = .ok (.iconst 0, 1) := by decide +kernel
theorem dXM_drop_22 : decode cXM_drop 22 = .ok (.iastore, 1) := by decide +kernel
theorem dXM_drop_23 : decode cXM_drop 23 = .ok (.iload_n 2, 1) := by decide +kernel
theorem dXM_drop_24 : decode cXM_drop 24 = .ok (.ireturn, 1) := by decide +kernel
abbrev cXM_placeOf : ByteArray := prog_10_method_32_code
def yXM_placeOf : MethodName := ⟨RXM, "placeOf", "(II)I"⟩
set_option maxRecDepth 100000 in
theorem qXM_placeOf : Cond.code yXM_placeOf cXM_placeOf 3 (some .int) ∈ lg_tbl := fx_c 828 rfl
theorem hdXM_placeOf : yXM_placeOf.cls = RXM ∧ yXM_placeOf.cls ≠ "java/lang/invoke/MethodHandle" ∧ yXM_placeOf.cls ≠ "java/lang/invoke/VarHandle" ∧ (parseMethodDescriptor yXM_placeOf.desc).map (fun d => d.parameters.length) = some 2 := by decide +kernel
theorem dXM_placeOf_0 : decode cXM_placeOf 0 = .ok (.iload_n 1, 1) := by decide +kernel
theorem dXM_placeOf_1 : decode cXM_placeOf 1 = .ok (.invokestatic 132, 3) := by decide +kernel
theorem dXM_placeOf_4 : decode cXM_placeOf 4 = .ok (.ifCond .ne 5, 3) := by decide +kernel
theorem dXM_placeOf_7 : decode cXM_placeOf 7 = .ok (.iconst (-1), 1) := by decide +kernel
theorem dXM_placeOf_8 : decode cXM_placeOf 8 = .ok (.ireturn, 1) := by decide +kernel
theorem dXM_placeOf_9 : decode cXM_placeOf 9 = .ok (.aload_n 0, 1) := by decide +kernel
theorem dXM_placeOf_10 : decode cXM_placeOf 10 = .ok (.aload_n 0, 1) := by decide +kernel
theorem dXM_placeOf_11 : decode cXM_placeOf 11 = .ok (.getfield 38, 3) := by decide +kernel
theorem dXM_placeOf_14 : decode cXM_placeOf 14 = .ok (.iload_n 1, 1) := by decide +kernel
theorem dXM_placeOf_15 : decode cXM_placeOf 15 = .ok (.laload, 1) := by decide +kernel
theorem dXM_placeOf_16 : decode cXM_placeOf 16 = .ok (.iconst 1, 1) := by decide +kernel
theorem dXM_placeOf_17 : decode cXM_placeOf 17 = .ok (.invokevirtual 153, 3) := by decide +kernel
theorem dXM_placeOf_20 : decode cXM_placeOf 20 = .ok (.iload_n 2, 1) := by decide +kernel
theorem dXM_placeOf_21 : decode cXM_placeOf 21 = .ok (.ifCond .lt 20, 3) := by decide +kernel
theorem dXM_placeOf_24 : decode cXM_placeOf 24 = .ok (.iload_n 2, 1) := by decide +kernel
theorem dXM_placeOf_25 : decode cXM_placeOf 25 = .ok (.aload_n 0, 1) := by decide +kernel
theorem dXM_placeOf_26 : decode cXM_placeOf 26 = .ok (.getfield 138, 3) := by decide +kernel
theorem dXM_placeOf_29 : decode cXM_placeOf 29 = .ok (.if_icmp .ge 12, 3) := by decide +kernel
theorem dXM_placeOf_32 : decode cXM_placeOf 32 = .ok (.aload_n 0, 1) := by decide +kernel
theorem dXM_placeOf_33 : decode cXM_placeOf 33 = .ok (.getfield 65, 3) := by decide +kernel
theorem dXM_placeOf_36 : decode cXM_placeOf 36 = .ok (.iload_n 2, 1) := by decide +kernel
theorem dXM_placeOf_37 : decode cXM_placeOf 37 = .ok (.iaload, 1) := by decide +kernel
theorem dXM_placeOf_38 : decode cXM_placeOf 38 = .ok (.goto 4, 3) := by decide +kernel
theorem dXM_placeOf_41 : decode cXM_placeOf 41 = .ok (.iconst (-1), 1) := by decide +kernel
theorem dXM_placeOf_42 : decode cXM_placeOf 42 = .ok (.ireturn, 1) := by decide +kernel
abbrev cXM_size : ByteArray := prog_10_method_33_code
def yXM_size : MethodName := ⟨RXM, "size", "(J)I"⟩
set_option maxRecDepth 100000 in
theorem qXM_size : Cond.code yXM_size cXM_size 4 (some .int) ∈ lg_tbl := fx_c 812 rfl
theorem hdXM_size : yXM_size.cls = RXM ∧ yXM_size.cls ≠ "java/lang/invoke/MethodHandle" ∧ yXM_size.cls ≠ "java/lang/invoke/VarHandle" ∧ (parseMethodDescriptor yXM_size.desc).map (fun d => d.parameters.length) = some 1 := by decide +kernel
theorem dXM_size_0 : decode cXM_size 0 = .ok (.iconst 0, 1) := by decide +kernel
theorem dXM_size_1 : decode cXM_size 1 = .ok (.istore_n 2, 1) := by decide +kernel
theorem dXM_size_2 : decode cXM_size 2 = .ok (.iconst 0, 1) := by decide +kernel
theorem dXM_size_3 : decode cXM_size 3 = .ok (.istore_n 3, 1) := by decide +kernel
theorem dXM_size_4 : decode cXM_size 4 = .ok (.iload_n 3, 1) := by decide +kernel
theorem dXM_size_5 : decode cXM_size 5 = .ok (.bipush 40, 2) := by decide +kernel
theorem dXM_size_7 : decode cXM_size 7 = .ok (.if_icmp .ge 25, 3) := by decide +kernel
theorem dXM_size_10 : decode cXM_size 10 = .ok (.iload_n 2, 1) := by decide +kernel
theorem dXM_size_11 : decode cXM_size 11 = .ok (.lload_n 0, 1) := by decide +kernel
theorem dXM_size_12 : decode cXM_size 12 = .ok (.iload_n 3, 1) := by decide +kernel
theorem dXM_size_13 : decode cXM_size 13 = .ok (.invokestatic 88, 3) := by decide +kernel
theorem dXM_size_16 : decode cXM_size 16 = .ok (.ifCond .eq 7, 3) := by decide +kernel
theorem dXM_size_19 : decode cXM_size 19 = .ok (.iconst 1, 1) := by decide +kernel
theorem dXM_size_20 : decode cXM_size 20 = .ok (.goto 4, 3) := by decide +kernel
theorem dXM_size_23 : decode cXM_size 23 = .ok (.iconst 0, 1) := by decide +kernel
theorem dXM_size_24 : decode cXM_size 24 = .ok (.iadd, 1) := by decide +kernel
theorem dXM_size_25 : decode cXM_size 25 = .ok (.istore_n 2, 1) := by decide +kernel
theorem dXM_size_26 : decode cXM_size 26 = .ok (.iinc 3 1, 3) := by decide +kernel
theorem dXM_size_29 : decode cXM_size 29 = .ok (.goto (-25), 3) := by decide +kernel
theorem dXM_size_32 : decode cXM_size 32 = .ok (.iload_n 2, 1) := by decide +kernel
theorem dXM_size_33 : decode cXM_size 33 = .ok (.ireturn, 1) := by decide +kernel
