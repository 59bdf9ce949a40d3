abbrev cXRe_firstReady : ByteArray := prog_7_method_7_code
def yXRe_firstReady : MethodName := ⟨RXRe, "firstReady", "()I"⟩
set_option maxRecDepth 100000 in
theorem qXRe_firstReady : Cond.code yXRe_firstReady cXRe_firstReady 2 (some .int) ∈ lg_tbl := fx_c 486 rfl
theorem hdXRe_firstReady : yXRe_firstReady.cls = RXRe ∧ yXRe_firstReady.cls ≠ "java/lang/invoke/MethodHandle" ∧ yXRe_firstReady.cls ≠ "java/lang/invoke/VarHandle" ∧ (parseMethodDescriptor yXRe_firstReady.desc).map (fun d => d.parameters.length) = some 0 := by decide +kernel
theorem dXRe_firstReady_0 : decode cXRe_firstReady 0 = .ok (.iconst 0, 1) := by decide +kernel
theorem dXRe_firstReady_1 : decode cXRe_firstReady 1 = .ok (.istore_n 1, 1) := by decide +kernel
theorem dXRe_firstReady_2 : decode cXRe_firstReady 2 = .ok (.iload_n 1, 1) := by decide +kernel
theorem dXRe_firstReady_3 : decode cXRe_firstReady 3 = .ok (.aload_n 0, 1) := by decide +kernel
theorem dXRe_firstReady_4 : decode cXRe_firstReady 4 = .ok (.getfield 24, 3) := by decide +kernel
theorem dXRe_firstReady_7 : decode cXRe_firstReady 7 = .ok (.invokevirtual 110, 3) := by decide +kernel
theorem dXRe_firstReady_10 : decode cXRe_firstReady 10 = .ok (.if_icmp .ge 29, 3) := by decide +kernel
theorem dXRe_firstReady_13 : decode cXRe_firstReady 13 = .ok (.aload_n 0, 1) := by decide +kernel
theorem dXRe_firstReady_14 : decode cXRe_firstReady 14 = .ok (.aload_n 0, 1) := by decide +kernel
theorem dXRe_firstReady_15 : decode cXRe_firstReady 15 = .ok (.getfield 24, 3) := by decide +kernel
theorem dXRe_firstReady_18 : decode cXRe_firstReady 18 = .ok (.iload_n 1, 1) := by decide +kernel
theorem dXRe_firstReady_19 : decode cXRe_firstReady 19 = .ok (.invokevirtual 113, 3) := by decide +kernel
theorem dXRe_firstReady_22 : decode cXRe_firstReady 22 = .ok (.checkcast 47, 3) := by decide +kernel
theorem dXRe_firstReady_25 : decode cXRe_firstReady 25 = .ok (.invokevirtual 85, 3) := by decide +kernel
theorem dXRe_firstReady_28 : decode cXRe_firstReady 28 = .ok (.ifCond .eq 5, 3) := by decide +kernel
theorem dXRe_firstReady_31 : decode cXRe_firstReady 31 = .ok (.iload_n 1, 1) := by decide +kernel
theorem dXRe_firstReady_32 : decode cXRe_firstReady 32 = .ok (.ireturn, 1) := by decide +kernel
theorem dXRe_firstReady_33 : decode cXRe_firstReady 33 = .ok (.iinc 1 1, 3) := by decide +kernel
theorem dXRe_firstReady_36 : decode cXRe_firstReady 36 = .ok (.goto (-34), 3) := by decide +kernel
theorem dXRe_firstReady_39 : decode cXRe_firstReady 39 = .ok (.iconst (-1), 1) := by decide +kernel
theorem dXRe_firstReady_40 : decode cXRe_firstReady 40 = .ok (.ireturn, 1) := by decide +kernel
abbrev cXRe_welcome : ByteArray := prog_7_method_4_code
def yXRe_welcome : MethodName := ⟨RXRe, "welcome", "(LHashLinkedWeb$Operation;)I"⟩
set_option maxRecDepth 100000 in
theorem qXRe_welcome : Cond.code yXRe_welcome cXRe_welcome 5 (some .int) ∈ lg_tbl := fx_c 283 rfl
theorem hdXRe_welcome : yXRe_welcome.cls = RXRe ∧ yXRe_welcome.cls ≠ "java/lang/invoke/MethodHandle" ∧ yXRe_welcome.cls ≠ "java/lang/invoke/VarHandle" ∧ (parseMethodDescriptor yXRe_welcome.desc).map (fun d => d.parameters.length) = some 1 := by decide +kernel
theorem dXRe_welcome_0 : decode cXRe_welcome 0 = .ok (.aload_n 0, 1) := by decide +kernel
theorem dXRe_welcome_1 : decode cXRe_welcome 1 = .ok (.aload_n 1, 1) := by decide +kernel
theorem dXRe_welcome_2 : decode cXRe_welcome 2 = .ok (.invokevirtual 62, 3) := by decide +kernel
theorem dXRe_welcome_5 : decode cXRe_welcome 5 = .ok (.istore_n 2, 1) := by decide +kernel
theorem dXRe_welcome_6 : decode cXRe_welcome 6 = .ok (.iconst 0, 1) := by decide +kernel
theorem dXRe_welcome_7 : decode cXRe_welcome 7 = .ok (.istore_n 3, 1) := by decide +kernel
theorem dXRe_welcome_8 : decode cXRe_welcome 8 = .ok (.iload_n 3, 1) := by decide +kernel
theorem dXRe_welcome_9 : decode cXRe_welcome 9 = .ok (.bipush 10, 2) := by decide +kernel
theorem dXRe_welcome_11 : decode cXRe_welcome 11 = .ok (.if_icmp .ge 40, 3) := by decide +kernel
theorem dXRe_welcome_14 : decode cXRe_welcome 14 = .ok (.aload_n 0, 1) := by decide +kernel
theorem dXRe_welcome_15 : decode cXRe_welcome 15 = .ok (.invokevirtual 66, 3) := by decide +kernel
theorem dXRe_welcome_18 : decode cXRe_welcome 18 = .ok (.istore 4, 2) := by decide +kernel
theorem dXRe_welcome_20 : decode cXRe_welcome 20 = .ok (.iload 4, 2) := by decide +kernel
theorem dXRe_welcome_22 : decode cXRe_welcome 22 = .ok (.ifCond .ge 6, 3) := by decide +kernel
theorem dXRe_welcome_25 : decode cXRe_welcome 25 = .ok (.goto 26, 3) := by decide +kernel
theorem dXRe_welcome_28 : decode cXRe_welcome 28 = .ok (.aload_n 0, 1) := by decide +kernel
theorem dXRe_welcome_29 : decode cXRe_welcome 29 = .ok (.aload_n 0, 1) := by decide +kernel
theorem dXRe_welcome_30 : decode cXRe_welcome 30 = .ok (.getfield 24, 3) := by decide +kernel
theorem dXRe_welcome_33 : decode cXRe_welcome 33 = .ok (.iload 4, 2) := by decide +kernel
theorem dXRe_welcome_35 : decode cXRe_welcome 35 = .ok (.invokevirtual 70, 3) := by decide +kernel
theorem dXRe_welcome_38 : decode cXRe_welcome 38 = .ok (.checkcast 47, 3) := by decide +kernel
theorem dXRe_welcome_41 : decode cXRe_welcome 41 = .ok (.invokevirtual 62, 3) := by decide +kernel
theorem dXRe_welcome_44 : decode cXRe_welcome 44 = .ok (.pop, 1) := by decide +kernel
theorem dXRe_welcome_45 : decode cXRe_welcome 45 = .ok (.iinc 3 1, 3) := by decide +kernel
theorem dXRe_welcome_48 : decode cXRe_welcome 48 = .ok (.goto (-40), 3) := by decide +kernel
theorem dXRe_welcome_51 : decode cXRe_welcome 51 = .ok (.iload_n 2, 1) := by decide +kernel
theorem dXRe_welcome_52 : decode cXRe_welcome 52 = .ok (.ireturn, 1) := by decide +kernel
abbrev cXW_write : ByteArray := prog_1_method_2_code
def yXW_write : MethodName := ⟨RXW, "write", "(IIII)I"⟩
set_option maxRecDepth 100000 in
theorem qXW_write : Cond.code yXW_write cXW_write 8 (some .int) ∈ lg_tbl := fx_c 193 rfl
theorem hdXW_write : yXW_write.cls = RXW ∧ yXW_write.cls ≠ "java/lang/invoke/MethodHandle" ∧ yXW_write.cls ≠ "java/lang/invoke/VarHandle" ∧ (parseMethodDescriptor yXW_write.desc).map (fun d => d.parameters.length) = some 4 := by decide +kernel
theorem dXW_write_0 : decode cXW_write 0 = .ok (.aload_n 0, 1) := by decide +kernel
theorem dXW_write_1 : decode cXW_write 1 = .ok (.iload_n 1, 1) := by decide +kernel
theorem dXW_write_2 : decode cXW_write 2 = .ok (.invokevirtual 35, 3) := by decide +kernel
theorem dXW_write_5 : decode cXW_write 5 = .ok (.astore 5, 2) := by decide +kernel
theorem dXW_write_7 : decode cXW_write 7 = .ok (.aload 5, 2) := by decide +kernel
theorem dXW_write_9 : decode cXW_write 9 = .ok (.ifnonnull 5, 3) := by decide +kernel
theorem dXW_write_12 : decode cXW_write 12 = .ok (.iconst (-1), 1) := by decide +kernel
theorem dXW_write_13 : decode cXW_write 13 = .ok (.ireturn, 1) := by decide +kernel
theorem dXW_write_14 : decode cXW_write 14 = .ok (.aload_n 0, 1) := by decide +kernel
theorem dXW_write_15 : decode cXW_write 15 = .ok (.getfield 32, 3) := by decide +kernel
theorem dXW_write_18 : decode cXW_write 18 = .ok (.iload_n 1, 1) := by decide +kernel
theorem dXW_write_19 : decode cXW_write 19 = .ok (.iload_n 2, 1) := by decide +kernel
theorem dXW_write_20 : decode cXW_write 20 = .ok (.iload_n 3, 1) := by decide +kernel
theorem dXW_write_21 : decode cXW_write 21 = .ok (.iload 4, 2) := by decide +kernel
theorem dXW_write_23 : decode cXW_write 23 = .ok (.invokevirtual 39, 3) := by decide +kernel
theorem dXW_write_26 : decode cXW_write 26 = .ok (.aload 5, 2) := by decide +kernel
theorem dXW_write_28 : decode cXW_write 28 = .ok (.getfield 43, 3) := by decide +kernel
theorem dXW_write_31 : decode cXW_write 31 = .ok (.getfield 47, 3) := by decide +kernel
theorem dXW_write_34 : decode cXW_write 34 = .ok (.istore 6, 2) := by decide +kernel
theorem dXW_write_36 : decode cXW_write 36 = .ok (.iconst 0, 1) := by decide +kernel
theorem dXW_write_37 : decode cXW_write 37 = .ok (.iload 6, 2) := by decide +kernel
theorem dXW_write_39 : decode cXW_write 39 = .ok (.iconst 4, 1) := by decide +kernel
theorem dXW_write_40 : decode cXW_write 40 = .ok (.isub, 1) := by decide +kernel
theorem dXW_write_41 : decode cXW_write 41 = .ok (.invokestatic 53, 3) := by decide +kernel
theorem dXW_write_44 : decode cXW_write 44 = .ok (.istore 7, 2) := by decide +kernel
theorem dXW_write_46 : decode cXW_write 46 = .ok (.iload 7, 2) := by decide +kernel
theorem dXW_write_48 : decode cXW_write 48 = .ok (.iload 6, 2) := by decide +kernel
theorem dXW_write_50 : decode cXW_write 50 = .ok (.if_icmp .ge 24, 3) := by decide +kernel
theorem dXW_write_53 : decode cXW_write 53 = .ok (.aload_n 0, 1) := by decide +kernel
theorem dXW_write_54 : decode cXW_write 54 = .ok (.getfield 32, 3) := by decide +kernel
theorem dXW_write_57 : decode cXW_write 57 = .ok (.aload 5, 2) := by decide +kernel
theorem dXW_write_59 : decode cXW_write 59 = .ok (.iload 7, 2) := by decide +kernel
theorem dXW_write_61 : decode cXW_write 61 = .ok (.invokestatic 59, 3) := by decide +kernel
theorem dXW_write_64 : decode cXW_write 64 = .ok (.invokevirtual 63, 3) := by decide +kernel
theorem dXW_write_67 : decode cXW_write 67 = .ok (.pop, 1) := by decide +kernel
theorem dXW_write_68 : decode cXW_write 68 = .ok (.iinc 7 1, 3) := by decide +kernel
theorem dXW_write_71 : decode cXW_write 71 = .ok (.goto (-25), 3) := by decide +kernel
theorem dXW_write_74 : decode cXW_write 74 = .ok (.aload 5, 2) := by decide +kernel
theorem dXW_write_76 : decode cXW_write 76 = .ok (.aload_n 0, 1) := by decide +kernel
theorem dXW_write_77 : decode cXW_write 77 = .ok (.getfield 32, 3) := by decide +kernel
theorem dXW_write_80 : decode cXW_write 80 = .ok (.invokevirtual 67, 3) := by decide +kernel
theorem dXW_write_83 : decode cXW_write 83 = .ok (.invokevirtual 71, 3) := by decide +kernel
theorem dXW_write_86 : decode cXW_write 86 = .ok (.ireturn, 1) := by decide +kernel
abbrev cXW_draft : ByteArray := prog_1_method_3_code
def yXW_draft : MethodName := ⟨RXW, "draft", "(IIII)V"⟩
set_option maxRecDepth 100000 in
theorem qXW_draft : Cond.code yXW_draft cXW_draft 5 none ∈ lg_tbl := fx_c 490 rfl
theorem hdXW_draft : yXW_draft.cls = RXW ∧ yXW_draft.cls ≠ "java/lang/invoke/MethodHandle" ∧ yXW_draft.cls ≠ "java/lang/invoke/VarHandle" ∧ (parseMethodDescriptor yXW_draft.desc).map (fun d => d.parameters.length) = some 4 := by decide +kernel
theorem dXW_draft_0 : decode cXW_draft 0 = .ok (.aload_n 0, 1) := by decide +kernel
theorem dXW_draft_1 : decode cXW_draft 1 = .ok (.getfield 28, 3) := by decide +kernel
theorem dXW_draft_4 : decode cXW_draft 4 = .ok (.iload_n 1, 1) := by decide +kernel
theorem dXW_draft_5 : decode cXW_draft 5 = .ok (.iload_n 2, 1) := by decide +kernel
theorem dXW_draft_6 : decode cXW_draft 6 = .ok (.iload_n 3, 1) := by decide +kernel
theorem dXW_draft_7 : decode cXW_draft 7 = .ok (.iload 4, 2) := by decide +kernel
theorem dXW_draft_9 : decode cXW_draft 9 = .ok (.invokevirtual 39, 3) := by decide +kernel
theorem dXW_draft_12 : decode cXW_draft 12 = .ok (.return_, 1) := by decide +kernel
abbrev cXW_link : ByteArray := prog_1_method_4_code
def yXW_link : MethodName := ⟨RXW, "link", "(J)Z"⟩
set_option maxRecDepth 100000 in
theorem qXW_link : Cond.code yXW_link cXW_link 3 (some .boolean) ∈ lg_tbl := fx_c 494 rfl
theorem hdXW_link : yXW_link.cls = RXW ∧ yXW_link.cls ≠ "java/lang/invoke/MethodHandle" ∧ yXW_link.cls ≠ "java/lang/invoke/VarHandle" ∧ (parseMethodDescriptor yXW_link.desc).map (fun d => d.parameters.length) = some 1 := by decide +kernel
theorem dXW_link_0 : decode cXW_link 0 = .ok (.aload_n 0, 1) := by decide +kernel
theorem dXW_link_1 : decode cXW_link 1 = .ok (.getfield 28, 3) := by decide +kernel
theorem dXW_link_4 : decode cXW_link 4 = .ok (.lload_n 1, 1) := by decide +kernel
theorem dXW_link_5 : decode cXW_link 5 = .ok (.invokevirtual 63, 3) := by decide +kernel
theorem dXW_link_8 : decode cXW_link 8 = .ok (.ireturn, 1) := by decide +kernel
abbrev cXW_draftHash : ByteArray := prog_1_method_5_code
def yXW_draftHash : MethodName := ⟨RXW, "draftHash", "()J"⟩
set_option maxRecDepth 100000 in
theorem qXW_draftHash : Cond.code yXW_draftHash cXW_draftHash 1 (some .long) ∈ lg_tbl := fx_c 498 rfl
theorem hdXW_draftHash : yXW_draftHash.cls = RXW ∧ yXW_draftHash.cls ≠ "java/lang/invoke/MethodHandle" ∧ yXW_draftHash.cls ≠ "java/lang/invoke/VarHandle" ∧ (parseMethodDescriptor yXW_draftHash.desc).map (fun d => d.parameters.length) = some 0 := by decide +kernel
theorem dXW_draftHash_0 : decode cXW_draftHash 0 = .ok (.aload_n 0, 1) := by decide +kernel
theorem dXW_draftHash_1 : decode cXW_draftHash 1 = .ok (.getfield 28, 3) := by decide +kernel
theorem dXW_draftHash_4 : decode cXW_draftHash 4 = .ok (.invokevirtual 67, 3) := by decide +kernel
theorem dXW_draftHash_7 : decode cXW_draftHash 7 = .ok (.getfield 75, 3) := by decide +kernel
theorem dXW_draftHash_10 : decode cXW_draftHash 10 = .ok (.lreturn, 1) := by decide +kernel
abbrev cXW_offer : ByteArray := prog_1_method_6_code
def yXW_offer : MethodName := ⟨RXW, "offer", "(I)I"⟩
set_option maxRecDepth 100000 in
theorem qXW_offer : Cond.code yXW_offer cXW_offer 3 (some .int) ∈ lg_tbl := fx_c 502 rfl
theorem hdXW_offer : yXW_offer.cls = RXW ∧ yXW_offer.cls ≠ "java/lang/invoke/MethodHandle" ∧ yXW_offer.cls ≠ "java/lang/invoke/VarHandle" ∧ (parseMethodDescriptor yXW_offer.desc).map (fun d => d.parameters.length) = some 1 := by decide +kernel
theorem dXW_offer_0 : decode cXW_offer 0 = .ok (.aload_n 0, 1) := by decide +kernel
theorem dXW_offer_1 : decode cXW_offer 1 = .ok (.iload_n 1, 1) := by decide +kernel
theorem dXW_offer_2 : decode cXW_offer 2 = .ok (.invokevirtual 35, 3) := by decide +kernel
theorem dXW_offer_5 : decode cXW_offer 5 = .ok (.astore_n 2, 1) := by decide +kernel
theorem dXW_offer_6 : decode cXW_offer 6 = .ok (.aload_n 2, 1) := by decide +kernel
theorem dXW_offer_7 : decode cXW_offer 7 = .ok (.ifnonnull 7, 3) := by decide +kernel
theorem dXW_offer_10 : decode cXW_offer 10 = .ok (.iconst (-1), 1) := by decide +kernel
theorem dXW_offer_11 : decode cXW_offer 11 = .ok (.goto 14, 3) := by decide +kernel
theorem dXW_offer_14 : decode cXW_offer 14 = .ok (.aload_n 2, 1) := by decide +kernel
theorem dXW_offer_15 : decode cXW_offer 15 = .ok (.aload_n 0, 1) := by decide +kernel
theorem dXW_offer_16 : decode cXW_offer 16 = .ok (.getfield 28, 3) := by decide +kernel
theorem dXW_offer_19 : decode cXW_offer 19 = .ok (.invokevirtual 67, 3) := by decide +kernel
theorem dXW_offer_22 : decode cXW_offer 22 = .ok (.invokevirtual 71, 3) := by decide +kernel
theorem dXW_offer_25 : decode cXW_offer 25 = .ok (.ireturn, 1) := by decide +kernel
abbrev cXRe_headSet : ByteArray := prog_7_method_11_code
def yXRe_headSet : MethodName := ⟨RXRe, "headSet", "()J"⟩
set_option maxRecDepth 100000 in
theorem qXRe_headSet : Cond.code yXRe_headSet cXRe_headSet 4 (some .long) ∈ lg_tbl := fx_c 516 rfl
theorem hdXRe_headSet : yXRe_headSet.cls = RXRe ∧ yXRe_headSet.cls ≠ "java/lang/invoke/MethodHandle" ∧ yXRe_headSet.cls ≠ "java/lang/invoke/VarHandle" ∧ (parseMethodDescriptor yXRe_headSet.desc).map (fun d => d.parameters.length) = some 0 := by decide +kernel
theorem dXRe_headSet_0 : decode cXRe_headSet 0 = .ok (.lconst 0, 1) := by decide +kernel
theorem dXRe_headSet_1 : decode cXRe_headSet 1 = .ok (.lstore_n 1, 1) := by decide +kernel
theorem dXRe_headSet_2 : decode cXRe_headSet 2 = .ok (.iconst 0, 1) := by decide +kernel
theorem dXRe_headSet_3 : decode cXRe_headSet 3 = .ok (.istore_n 3, 1) := by decide +kernel
theorem dXRe_headSet_4 : decode cXRe_headSet 4 = .ok (.iload_n 3, 1) := by decide +kernel
theorem dXRe_headSet_5 : decode cXRe_headSet 5 = .ok (.aload_n 0, 1) := by decide +kernel
theorem dXRe_headSet_6 : decode cXRe_headSet 6 = .ok (.getfield 18, 3) := by decide +kernel
theorem dXRe_headSet_9 : decode cXRe_headSet 9 = .ok (.getfield 137, 3) := by decide +kernel
theorem dXRe_headSet_12 : decode cXRe_headSet 12 = .ok (.if_icmp .ge 26, 3) := by decide +kernel
theorem dXRe_headSet_15 : decode cXRe_headSet 15 = .ok (.lload_n 1, 1) := by decide +kernel
theorem dXRe_headSet_16 : decode cXRe_headSet 16 = .ok (.lconst 1, 1) := by decide +kernel
theorem dXRe_headSet_17 : decode cXRe_headSet 17 = .ok (.aload_n 0, 1) := by decide +kernel
theorem dXRe_headSet_18 : decode cXRe_headSet 18 = .ok (.getfield 18, 3) := by decide +kernel
theorem dXRe_headSet_21 : decode cXRe_headSet 21 = .ok (.getfield 139, 3) := by decide +kernel
theorem dXRe_headSet_24 : decode cXRe_headSet 24 = .ok (.iload_n 3, 1) := by decide +kernel
theorem dXRe_headSet_25 : decode cXRe_headSet 25 = .ok (.aaload, 1) := by decide +kernel
theorem dXRe_headSet_26 : decode cXRe_headSet 26 = .ok (.getfield 36, 3) := by decide +kernel
theorem dXRe_headSet_29 : decode cXRe_headSet 29 = .ok (.lshl, 1) := by decide +kernel
theorem dXRe_headSet_30 : decode cXRe_headSet 30 = .ok (.lor, 1) := by decide +kernel
theorem dXRe_headSet_31 : decode cXRe_headSet 31 = .ok (.lstore_n 1, 1) := by decide +kernel
theorem dXRe_headSet_32 : decode cXRe_headSet 32 = .ok (.iinc 3 1, 3) := by decide +kernel
theorem dXRe_headSet_35 : decode cXRe_headSet 35 = .ok (.goto (-31), 3) := by decide +kernel
theorem dXRe_headSet_38 : decode cXRe_headSet 38 = .ok (.lload_n 1, 1) := by decide +kernel
theorem dXRe_headSet_39 : decode cXRe_headSet 39 = .ok (.lreturn, 1) := by decide +kernel
abbrev cXAs_init : ByteArray := prog_2_method_1_code
def yXAs_init : MethodName := ⟨RXAs, "<init>", "(LHashLinkedWeb$Known;LHashLinkedWeb$Replica;LHashLinkedWeb$Replica;)V"⟩
set_option maxRecDepth 100000 in
theorem qXAs_init : Cond.code yXAs_init cXAs_init 4 none ∈ lg_tbl := fx_c 511 rfl
theorem hdXAs_init : yXAs_init.cls = RXAs ∧ yXAs_init.cls ≠ "java/lang/invoke/MethodHandle" ∧ yXAs_init.cls ≠ "java/lang/invoke/VarHandle" ∧ (parseMethodDescriptor yXAs_init.desc).map (fun d => d.parameters.length) = some 3 := by decide +kernel
theorem dXAs_init_0 : decode cXAs_init 0 = .ok (.aload_n 0, 1) := by decide +kernel
theorem dXAs_init_1 : decode cXAs_init 1 = .ok (.invokespecial 1, 3) := by decide +kernel
theorem dXAs_init_4 : decode cXAs_init 4 = .ok (.aload_n 0, 1) := by decide +kernel
theorem dXAs_init_5 : decode cXAs_init 5 = .ok (.aload_n 1, 1) := by decide +kernel
theorem dXAs_init_6 : decode cXAs_init 6 = .ok (.putfield 7, 3) := by decide +kernel
theorem dXAs_init_9 : decode cXAs_init 9 = .ok (.aload_n 0, 1) := by decide +kernel
theorem dXAs_init_10 : decode cXAs_init 10 = .ok (.aload_n 2, 1) := by decide +kernel
theorem dXAs_init_11 : decode cXAs_init 11 = .ok (.putfield 13, 3) := by decide +kernel
theorem dXAs_init_14 : decode cXAs_init 14 = .ok (.aload_n 0, 1) := by decide +kernel
theorem dXAs_init_15 : decode cXAs_init 15 = .ok (.aload_n 3, 1) := by decide +kernel
theorem dXAs_init_16 : decode cXAs_init 16 = .ok (.putfield 17, 3) := by decide +kernel
theorem dXAs_init_19 : decode cXAs_init 19 = .ok (.aload_n 0, 1) := by decide +kernel
theorem dXAs_init_20 : decode cXAs_init 20 = .ok (.aload_n 3, 1) := by decide +kernel
theorem dXAs_init_21 : decode cXAs_init 21 = .ok (.invokevirtual 20, 3) := by decide +kernel
theorem dXAs_init_24 : decode cXAs_init 24 = .ok (.aload_n 2, 1) := by decide +kernel
theorem dXAs_init_25 : decode cXAs_init 25 = .ok (.getfield 26, 3) := by decide +kernel
theorem dXAs_init_28 : decode cXAs_init 28 = .ok (.ldc2_w 30, 3) := by decide +kernel
theorem dXAs_init_31 : decode cXAs_init 31 = .ok (.lxor, 1) := by decide +kernel
theorem dXAs_init_32 : decode cXAs_init 32 = .ok (.land, 1) := by decide +kernel
theorem dXAs_init_33 : decode cXAs_init 33 = .ok (.putfield 32, 3) := by decide +kernel
theorem dXAs_init_36 : decode cXAs_init 36 = .ok (.return_, 1) := by decide +kernel
abbrev cXAs_isOpen : ByteArray := prog_2_method_2_code
def yXAs_isOpen : MethodName := ⟨RXAs, "isOpen", "()Z"⟩
set_option maxRecDepth 100000 in
theorem qXAs_isOpen : Cond.code yXAs_isOpen cXAs_isOpen 1 (some .boolean) ∈ lg_tbl := fx_c 537 rfl
theorem hdXAs_isOpen : yXAs_isOpen.cls = RXAs ∧ yXAs_isOpen.cls ≠ "java/lang/invoke/MethodHandle" ∧ yXAs_isOpen.cls ≠ "java/lang/invoke/VarHandle" ∧ (parseMethodDescriptor yXAs_isOpen.desc).map (fun d => d.parameters.length) = some 0 := by decide +kernel
theorem dXAs_isOpen_0 : decode cXAs_isOpen 0 = .ok (.aload_n 0, 1) := by decide +kernel
theorem dXAs_isOpen_1 : decode cXAs_isOpen 1 = .ok (.getfield 32, 3) := by decide +kernel
theorem dXAs_isOpen_4 : decode cXAs_isOpen 4 = .ok (.lconst 0, 1) := by decide +kernel
theorem dXAs_isOpen_5 : decode cXAs_isOpen 5 = .ok (.lcmp, 1) := by decide +kernel
theorem dXAs_isOpen_6 : decode cXAs_isOpen 6 = .ok (.ifCond .eq 7, 3) := by decide +kernel
theorem dXAs_isOpen_9 : decode cXAs_isOpen 9 = .ok (.iconst 1, 1) := by decide +kernel
theorem dXAs_isOpen_10 : decode cXAs_isOpen 10 = .ok (.goto 4, 3) := by decide +kernel
theorem dXAs_isOpen_13 : decode cXAs_isOpen 13 = .ok (.iconst 0, 1) := by decide +kernel
theorem dXAs_isOpen_14 : decode cXAs_isOpen 14 = .ok (.ireturn, 1) := by decide +kernel
abbrev cXKn_linksOfAll : ByteArray := prog_4_method_5_code
def yXKn_linksOfAll : MethodName := ⟨RXKn, "linksOfAll", "(J)J"⟩
set_option maxRecDepth 100000 in
theorem qXKn_linksOfAll : Cond.code yXKn_linksOfAll cXKn_linksOfAll 6 (some .long) ∈ lg_tbl := fx_c 545 rfl
theorem hdXKn_linksOfAll : yXKn_linksOfAll.cls = RXKn ∧ yXKn_linksOfAll.cls ≠ "java/lang/invoke/MethodHandle" ∧ yXKn_linksOfAll.cls ≠ "java/lang/invoke/VarHandle" ∧ (parseMethodDescriptor yXKn_linksOfAll.desc).map (fun d => d.parameters.length) = some 1 := by decide +kernel
theorem dXKn_linksOfAll_0 : decode cXKn_linksOfAll 0 = .ok (.lconst 0, 1) := by decide +kernel
theorem dXKn_linksOfAll_1 : decode cXKn_linksOfAll 1 = .ok (.lstore_n 3, 1) := by decide +kernel
theorem dXKn_linksOfAll_2 : decode cXKn_linksOfAll 2 = .ok (.iconst 0, 1) := by decide +kernel
theorem dXKn_linksOfAll_3 : decode cXKn_linksOfAll 3 = .ok (.istore 5, 2) := by decide +kernel
theorem dXKn_linksOfAll_5 : decode cXKn_linksOfAll 5 = .ok (.iload 5, 2) := by decide +kernel
theorem dXKn_linksOfAll_7 : decode cXKn_linksOfAll 7 = .ok (.aload_n 0, 1) := by decide +kernel
theorem dXKn_linksOfAll_8 : decode cXKn_linksOfAll 8 = .ok (.getfield 12, 3) := by decide +kernel
theorem dXKn_linksOfAll_11 : decode cXKn_linksOfAll 11 = .ok (.getfield 18, 3) := by decide +kernel
theorem dXKn_linksOfAll_14 : decode cXKn_linksOfAll 14 = .ok (.if_icmp .ge 34, 3) := by decide +kernel
theorem dXKn_linksOfAll_17 : decode cXKn_linksOfAll 17 = .ok (.lload_n 1, 1) := by decide +kernel
theorem dXKn_linksOfAll_18 : decode cXKn_linksOfAll 18 = .ok (.iload 5, 2) := by decide +kernel
theorem dXKn_linksOfAll_20 : decode cXKn_linksOfAll 20 = .ok (.invokestatic 42, 3) := by decide +kernel
theorem dXKn_linksOfAll_23 : decode cXKn_linksOfAll 23 = .ok (.ifCond .eq 19, 3) := by decide +kernel
theorem dXKn_linksOfAll_26 : decode cXKn_linksOfAll 26 = .ok (.lload_n 3, 1) := by decide +kernel
theorem dXKn_linksOfAll_27 : decode cXKn_linksOfAll 27 = .ok (.aload_n 0, 1) := by decide +kernel
theorem dXKn_linksOfAll_28 : decode cXKn_linksOfAll 28 = .ok (.getfield 12, 3) := by decide +kernel
theorem dXKn_linksOfAll_31 : decode cXKn_linksOfAll 31 = .ok (.getfield 26, 3) := by decide +kernel
theorem dXKn_linksOfAll_34 : decode cXKn_linksOfAll 34 = .ok (.iload 5, 2) := by decide +kernel
theorem dXKn_linksOfAll_36 : decode cXKn_linksOfAll 36 = .ok (.aaload, 1) := by decide +kernel
theorem dXKn_linksOfAll_37 : decode cXKn_linksOfAll 37 = .ok (.getfield 46, 3) := by decide +kernel
theorem dXKn_linksOfAll_40 : decode cXKn_linksOfAll 40 = .ok (.lor, 1) := by decide +kernel
theorem dXKn_linksOfAll_41 : decode cXKn_linksOfAll 41 = .ok (.lstore_n 3, 1) := by decide +kernel
theorem dXKn_linksOfAll_42 : decode cXKn_linksOfAll 42 = .ok (.iinc 5 1, 3) := by decide +kernel
theorem dXKn_linksOfAll_45 : decode cXKn_linksOfAll 45 = .ok (.goto (-40), 3) := by decide +kernel
theorem dXKn_linksOfAll_48 : decode cXKn_linksOfAll 48 = .ok (.lload_n 3, 1) := by decide +kernel
theorem dXKn_linksOfAll_49 : decode cXKn_linksOfAll 49 = .ok (.lreturn, 1) := by decide +kernel
abbrev cXAs_ask : ByteArray := prog_2_method_3_code
def yXAs_ask : MethodName := ⟨RXAs, "ask", "()V"⟩
set_option maxRecDepth 100000 in
theorem qXAs_ask : Cond.code yXAs_ask cXAs_ask 1 none ∈ lg_tbl := fx_c 541 rfl
theorem hdXAs_ask : yXAs_ask.cls = RXAs ∧ yXAs_ask.cls ≠ "java/lang/invoke/MethodHandle" ∧ yXAs_ask.cls ≠ "java/lang/invoke/VarHandle" ∧ (parseMethodDescriptor yXAs_ask.desc).map (fun d => d.parameters.length) = some 0 := by decide +kernel
theorem dXAs_ask_0 : decode cXAs_ask 0 = .ok (.aload_n 0, 1) := by decide +kernel
theorem dXAs_ask_1 : decode cXAs_ask 1 = .ok (.dup, 1) := by decide +kernel
theorem dXAs_ask_2 : decode cXAs_ask 2 = .ok (.getfield 35, 3) := by decide +kernel
theorem dXAs_ask_5 : decode cXAs_ask 5 = .ok (.aload_n 0, 1) := by decide +kernel
theorem dXAs_ask_6 : decode cXAs_ask 6 = .ok (.getfield 32, 3) := by decide +kernel
theorem dXAs_ask_9 : decode cXAs_ask 9 = .ok (.lor, 1) := by decide +kernel
theorem dXAs_ask_10 : decode cXAs_ask 10 = .ok (.putfield 35, 3) := by decide +kernel
theorem dXAs_ask_13 : decode cXAs_ask 13 = .ok (.aload_n 0, 1) := by decide +kernel
theorem dXAs_ask_14 : decode cXAs_ask 14 = .ok (.aload_n 0, 1) := by decide +kernel
theorem dXAs_ask_15 : decode cXAs_ask 15 = .ok (.getfield 7, 3) := by decide +kernel
theorem dXAs_ask_18 : decode cXAs_ask 18 = .ok (.aload_n 0, 1) := by decide +kernel
theorem dXAs_ask_19 : decode cXAs_ask 19 = .ok (.getfield 32, 3) := by decide +kernel
theorem dXAs_ask_22 : decode cXAs_ask 22 = .ok (.invokevirtual 38, 3) := by decide +kernel
theorem dXAs_ask_25 : decode cXAs_ask 25 = .ok (.aload_n 0, 1) := by decide +kernel
theorem dXAs_ask_26 : decode cXAs_ask 26 = .ok (.getfield 13, 3) := by decide +kernel
theorem dXAs_ask_29 : decode cXAs_ask 29 = .ok (.getfield 26, 3) := by decide +kernel
theorem dXAs_ask_32 : decode cXAs_ask 32 = .ok (.aload_n 0, 1) := by decide +kernel
theorem dXAs_ask_33 : decode cXAs_ask 33 = .ok (.getfield 35, 3) := by decide +kernel
theorem dXAs_ask_36 : decode cXAs_ask 36 = .ok (.lor, 1) := by decide +kernel
theorem dXAs_ask_37 : decode cXAs_ask 37 = .ok (.ldc2_w 30, 3) := by decide +kernel
theorem dXAs_ask_40 : decode cXAs_ask 40 = .ok (.lxor, 1) := by decide +kernel
theorem dXAs_ask_41 : decode cXAs_ask 41 = .ok (.land, 1) := by decide +kernel
theorem dXAs_ask_42 : decode cXAs_ask 42 = .ok (.putfield 32, 3) := by decide +kernel
theorem dXAs_ask_45 : decode cXAs_ask 45 = .ok (.return_, 1) := by decide +kernel
abbrev cXAs_bringHome : ByteArray := prog_2_method_4_code
def yXAs_bringHome : MethodName := ⟨RXAs, "bringHome", "()V"⟩
set_option maxRecDepth 100000 in
theorem qXAs_bringHome : Cond.code yXAs_bringHome cXAs_bringHome 3 none ∈ lg_tbl := fx_c 549 rfl
theorem hdXAs_bringHome : yXAs_bringHome.cls = RXAs ∧ yXAs_bringHome.cls ≠ "java/lang/invoke/MethodHandle" ∧ yXAs_bringHome.cls ≠ "java/lang/invoke/VarHandle" ∧ (parseMethodDescriptor yXAs_bringHome.desc).map (fun d => d.parameters.length) = some 0 := by decide +kernel
theorem dXAs_bringHome_0 : decode cXAs_bringHome 0 = .ok (.iconst 0, 1) := by decide +kernel
theorem dXAs_bringHome_1 : decode cXAs_bringHome 1 = .ok (.istore_n 1, 1) := by decide +kernel
theorem dXAs_bringHome_2 : decode cXAs_bringHome 2 = .ok (.iload_n 1, 1) := by decide +kernel
theorem dXAs_bringHome_3 : decode cXAs_bringHome 3 = .ok (.aload_n 0, 1) := by decide +kernel
theorem dXAs_bringHome_4 : decode cXAs_bringHome 4 = .ok (.getfield 17, 3) := by decide +kernel
theorem dXAs_bringHome_7 : decode cXAs_bringHome 7 = .ok (.getfield 44, 3) := by decide +kernel
theorem dXAs_bringHome_10 : decode cXAs_bringHome 10 = .ok (.getfield 48, 3) := by decide +kernel
theorem dXAs_bringHome_13 : decode cXAs_bringHome 13 = .ok (.if_icmp .ge 48, 3) := by decide +kernel
theorem dXAs_bringHome_16 : decode cXAs_bringHome 16 = .ok (.aload_n 0, 1) := by decide +kernel
theorem dXAs_bringHome_17 : decode cXAs_bringHome 17 = .ok (.getfield 17, 3) := by decide +kernel
theorem dXAs_bringHome_20 : decode cXAs_bringHome 20 = .ok (.getfield 44, 3) := by decide +kernel
theorem dXAs_bringHome_23 : decode cXAs_bringHome 23 = .ok (.getfield 54, 3) := by decide +kernel
theorem dXAs_bringHome_26 : decode cXAs_bringHome 26 = .ok (.iload_n 1, 1) := by decide +kernel
theorem dXAs_bringHome_27 : decode cXAs_bringHome 27 = .ok (.aaload, 1) := by decide +kernel
theorem dXAs_bringHome_28 : decode cXAs_bringHome 28 = .ok (.astore_n 2, 1) := by decide +kernel
theorem dXAs_bringHome_29 : decode cXAs_bringHome 29 = .ok (.aload_n 0, 1) := by decide +kernel
theorem dXAs_bringHome_30 : decode cXAs_bringHome 30 = .ok (.getfield 35, 3) := by decide +kernel
theorem dXAs_bringHome_33 : decode cXAs_bringHome 33 = .ok (.aload_n 2, 1) := by decide +kernel
theorem dXAs_bringHome_34 : decode cXAs_bringHome 34 = .ok (.getfield 58, 3) := by decide +kernel
theorem dXAs_bringHome_37 : decode cXAs_bringHome 37 = .ok (.invokestatic 63, 3) := by decide +kernel
theorem dXAs_bringHome_40 : decode cXAs_bringHome 40 = .ok (.ifCond .eq 15, 3) := by decide +kernel
theorem dXAs_bringHome_43 : decode cXAs_bringHome 43 = .ok (.aload_n 0, 1) := by decide +kernel
theorem dXAs_bringHome_44 : decode cXAs_bringHome 44 = .ok (.getfield 13, 3) := by decide +kernel
theorem dXAs_bringHome_47 : decode cXAs_bringHome 47 = .ok (.aload_n 2, 1) := by decide +kernel
theorem dXAs_bringHome_48 : decode cXAs_bringHome 48 = .ok (.getfield 69, 3) := by decide +kernel
theorem dXAs_bringHome_51 : decode cXAs_bringHome 51 = .ok (.invokevirtual 73, 3) := by decide +kernel
theorem dXAs_bringHome_54 : decode cXAs_bringHome 54 = .ok (.pop, 1) := by decide +kernel
theorem dXAs_bringHome_55 : decode cXAs_bringHome 55 = .ok (.iinc 1 1, 3) := by decide +kernel
theorem dXAs_bringHome_58 : decode cXAs_bringHome 58 = .ok (.goto (-56), 3) := by decide +kernel
theorem dXAs_bringHome_61 : decode cXAs_bringHome 61 = .ok (.return_, 1) := by decide +kernel
abbrev cXW_meet : ByteArray := prog_1_method_7_code
def yXW_meet : MethodName := ⟨RXW, "meet", "(II)I"⟩
set_option maxRecDepth 100000 in
theorem qXW_meet : Cond.code yXW_meet cXW_meet 8 (some .int) ∈ lg_tbl := fx_c 506 rfl
theorem hdXW_meet : yXW_meet.cls = RXW ∧ yXW_meet.cls ≠ "java/lang/invoke/MethodHandle" ∧ yXW_meet.cls ≠ "java/lang/invoke/VarHandle" ∧ (parseMethodDescriptor yXW_meet.desc).map (fun d => d.parameters.length) = some 2 := by decide +kernel
theorem dXW_meet_0 : decode cXW_meet 0 = .ok (.aload_n 0, 1) := by decide +kernel
theorem dXW_meet_1 : decode cXW_meet 1 = .ok (.iload_n 1, 1) := by decide +kernel
theorem dXW_meet_2 : decode cXW_meet 2 = .ok (.invokevirtual 35, 3) := by decide +kernel
theorem dXW_meet_5 : decode cXW_meet 5 = .ok (.astore_n 3, 1) := by decide +kernel
theorem dXW_meet_6 : decode cXW_meet 6 = .ok (.aload_n 0, 1) := by decide +kernel
theorem dXW_meet_7 : decode cXW_meet 7 = .ok (.iload_n 2, 1) := by decide +kernel
theorem dXW_meet_8 : decode cXW_meet 8 = .ok (.invokevirtual 35, 3) := by decide +kernel
theorem dXW_meet_11 : decode cXW_meet 11 = .ok (.astore 4, 2) := by decide +kernel
theorem dXW_meet_13 : decode cXW_meet 13 = .ok (.aload_n 3, 1) := by decide +kernel
theorem dXW_meet_14 : decode cXW_meet 14 = .ok (.ifnull 13, 3) := by decide +kernel
theorem dXW_meet_17 : decode cXW_meet 17 = .ok (.aload 4, 2) := by decide +kernel
theorem dXW_meet_19 : decode cXW_meet 19 = .ok (.ifnull 8, 3) := by decide +kernel
theorem dXW_meet_22 : decode cXW_meet 22 = .ok (.iload_n 1, 1) := by decide +kernel
theorem dXW_meet_23 : decode cXW_meet 23 = .ok (.iload_n 2, 1) := by decide +kernel
theorem dXW_meet_24 : decode cXW_meet 24 = .ok (.if_icmp .ne 5, 3) := by decide +kernel
theorem dXW_meet_27 : decode cXW_meet 27 = .ok (.iconst (-1), 1) := by decide +kernel
theorem dXW_meet_28 : decode cXW_meet 28 = .ok (.ireturn, 1) := by decide +kernel
theorem dXW_meet_29 : decode cXW_meet 29 = .ok (.new 81, 3) := by decide +kernel
theorem dXW_meet_32 : decode cXW_meet 32 = .ok (.dup, 1) := by decide +kernel
theorem dXW_meet_33 : decode cXW_meet 33 = .ok (.aload_n 0, 1) := by decide +kernel
theorem dXW_meet_34 : decode cXW_meet 34 = .ok (.getfield 10, 3) := by decide +kernel
theorem dXW_meet_37 : decode cXW_meet 37 = .ok (.aload_n 3, 1) := by decide +kernel
theorem dXW_meet_38 : decode cXW_meet 38 = .ok (.aload 4, 2) := by decide +kernel
theorem dXW_meet_40 : decode cXW_meet 40 = .ok (.invokespecial 83, 3) := by decide +kernel
theorem dXW_meet_43 : decode cXW_meet 43 = .ok (.astore 5, 2) := by decide +kernel
theorem dXW_meet_45 : decode cXW_meet 45 = .ok (.new 81, 3) := by decide +kernel
theorem dXW_meet_48 : decode cXW_meet 48 = .ok (.dup, 1) := by decide +kernel
theorem dXW_meet_49 : decode cXW_meet 49 = .ok (.aload_n 0, 1) := by decide +kernel
theorem dXW_meet_50 : decode cXW_meet 50 = .ok (.getfield 10, 3) := by decide +kernel
theorem dXW_meet_53 : decode cXW_meet 53 = .ok (.aload 4, 2) := by decide +kernel
theorem dXW_meet_55 : decode cXW_meet 55 = .ok (.aload_n 3, 1) := by decide +kernel
theorem dXW_meet_56 : decode cXW_meet 56 = .ok (.invokespecial 83, 3) := by decide +kernel
theorem dXW_meet_59 : decode cXW_meet 59 = .ok (.astore 6, 2) := by decide +kernel
theorem dXW_meet_61 : decode cXW_meet 61 = .ok (.iconst 0, 1) := by decide +kernel
theorem dXW_meet_62 : decode cXW_meet 62 = .ok (.istore 7, 2) := by decide +kernel
theorem dXW_meet_64 : decode cXW_meet 64 = .ok (.iload 7, 2) := by decide +kernel
theorem dXW_meet_66 : decode cXW_meet 66 = .ok (.bipush 40, 2) := by decide +kernel
theorem dXW_meet_68 : decode cXW_meet 68 = .ok (.if_icmp .ge 35, 3) := by decide +kernel
theorem dXW_meet_71 : decode cXW_meet 71 = .ok (.aload 5, 2) := by decide +kernel
theorem dXW_meet_73 : decode cXW_meet 73 = .ok (.invokevirtual 86, 3) := by decide +kernel
theorem dXW_meet_76 : decode cXW_meet 76 = .ok (.ifCond .ne 11, 3) := by decide +kernel
theorem dXW_meet_79 : decode cXW_meet 79 = .ok (.aload 6, 2) := by decide +kernel
theorem dXW_meet_81 : decode cXW_meet 81 = .ok (.invokevirtual 86, 3) := by decide +kernel
theorem dXW_meet_84 : decode cXW_meet 84 = .ok (.ifCond .eq 19, 3) := by decide +kernel
theorem dXW_meet_87 : decode cXW_meet 87 = .ok (.aload 5, 2) := by decide +kernel
theorem dXW_meet_89 : decode cXW_meet 89 = .ok (.invokevirtual 90, 3) := by decide +kernel
theorem dXW_meet_92 : decode cXW_meet 92 = .ok (.aload 6, 2) := by decide +kernel
theorem dXW_meet_94 : decode cXW_meet 94 = .ok (.invokevirtual 90, 3) := by decide +kernel
theorem dXW_meet_97 : decode cXW_meet 97 = .ok (.iinc 7 1, 3) := by decide +kernel
theorem dXW_meet_100 : decode cXW_meet 100 = .ok (.goto (-36), 3) := by decide +kernel
theorem dXW_meet_103 : decode cXW_meet 103 = .ok (.aload 5, 2) := by decide +kernel
theorem dXW_meet_105 : decode cXW_meet 105 = .ok (.invokevirtual 93, 3) := by decide +kernel
theorem dXW_meet_108 : decode cXW_meet 108 = .ok (.aload 6, 2) := by decide +kernel
theorem dXW_meet_110 : decode cXW_meet 110 = .ok (.invokevirtual 93, 3) := by decide +kernel
theorem dXW_meet_113 : decode cXW_meet 113 = .ok (.iload 7, 2) := by decide +kernel
theorem dXW_meet_115 : decode cXW_meet 115 = .ok (.ireturn, 1) := by decide +kernel
abbrev cXAL_clear : ByteArray := prog_18_method_40_code
def yXAL_clear : MethodName := ⟨RXAL, "clear", "()V"⟩
set_option maxRecDepth 100000 in
theorem qXAL_clear : Cond.code yXAL_clear cXAL_clear 4 none ∈ lg_tbl := fx_c 560 rfl
theorem hdXAL_clear : yXAL_clear.cls = RXAL ∧ yXAL_clear.cls ≠ "java/lang/invoke/MethodHandle" ∧ yXAL_clear.cls ≠ "java/lang/invoke/VarHandle" ∧ (parseMethodDescriptor yXAL_clear.desc).map (fun d => d.parameters.length) = some 0 := by decide +kernel
theorem dXAL_clear_0 : decode cXAL_clear 0 = .ok (.aload_n 0, 1) := by decide +kernel
theorem dXAL_clear_1 : decode cXAL_clear 1 = .ok (.dup, 1) := by decide +kernel
theorem dXAL_clear_2 : decode cXAL_clear 2 = .ok (.getfield 63, 3) := by decide +kernel
theorem dXAL_clear_5 : decode cXAL_clear 5 = .ok (.iconst 1, 1) := by decide +kernel
theorem dXAL_clear_6 : decode cXAL_clear 6 = .ok (.iadd, 1) := by decide +kernel
theorem dXAL_clear_7 : decode cXAL_clear 7 = .ok (.putfield 63, 3) := by decide +kernel
theorem dXAL_clear_10 : decode cXAL_clear 10 = .ok (.aload_n 0, 1) := by decide +kernel
theorem dXAL_clear_11 : decode cXAL_clear 11 = .ok (.getfield 9, 3) := by decide +kernel
theorem dXAL_clear_14 : decode cXAL_clear 14 = .ok (.astore_n 1, 1) := by decide +kernel
theorem dXAL_clear_15 : decode cXAL_clear 15 = .ok (.aload_n 0, 1) := by decide +kernel
theorem dXAL_clear_16 : decode cXAL_clear 16 = .ok (.getfield 48, 3) := by decide +kernel
theorem dXAL_clear_19 : decode cXAL_clear 19 = .ok (.istore_n 2, 1) := by decide +kernel
theorem dXAL_clear_20 : decode cXAL_clear 20 = .ok (.aload_n 0, 1) := by decide +kernel
theorem dXAL_clear_21 : decode cXAL_clear 21 = .ok (.iconst 0, 1) := by decide +kernel
theorem dXAL_clear_22 : decode cXAL_clear 22 = .ok (.dup_x1, 1) := by decide +kernel
theorem dXAL_clear_23 : decode cXAL_clear 23 = .ok (.putfield 48, 3) := by decide +kernel
theorem dXAL_clear_26 : decode cXAL_clear 26 = .ok (.istore_n 3, 1) := by decide +kernel
theorem dXAL_clear_27 : decode cXAL_clear 27 = .ok (.iload_n 3, 1) := by decide +kernel
theorem dXAL_clear_28 : decode cXAL_clear 28 = .ok (.iload_n 2, 1) := by decide +kernel
theorem dXAL_clear_29 : decode cXAL_clear 29 = .ok (.if_icmp .ge 13, 3) := by decide +kernel
theorem dXAL_clear_32 : decode cXAL_clear 32 = .ok (.aload_n 1, 1) := by decide +kernel
theorem dXAL_clear_33 : decode cXAL_clear 33 = .ok (.iload_n 3, 1) := by decide +kernel
theorem dXAL_clear_34 : decode cXAL_clear 34 = .ok (.aconst_null, 1) := by decide +kernel
theorem dXAL_clear_35 : decode cXAL_clear 35 = .ok (.aastore, 1) := by decide +kernel
theorem dXAL_clear_36 : decode cXAL_clear 36 = .ok (.iinc 3 1, 3) := by decide +kernel
theorem dXAL_clear_39 : decode cXAL_clear 39 = .ok (.goto (-12), 3) := by decide +kernel
theorem dXAL_clear_42 : decode cXAL_clear 42 = .ok (.return_, 1) := by decide +kernel
