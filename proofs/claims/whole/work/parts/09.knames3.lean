abbrev cXKn_isFull : ByteArray := prog_4_method_2_code
def yXKn_isFull : MethodName := ⟨RXKn, "isFull", "()Z"⟩
set_option maxRecDepth 100000 in
theorem qXKn_isFull : Cond.code yXKn_isFull cXKn_isFull 1 (some .boolean) ∈ lg_tbl := fx_c 436 rfl
theorem hdXKn_isFull : yXKn_isFull.cls = RXKn ∧ yXKn_isFull.cls ≠ "java/lang/invoke/MethodHandle" ∧ yXKn_isFull.cls ≠ "java/lang/invoke/VarHandle" ∧ (parseMethodDescriptor yXKn_isFull.desc).map (fun d => d.parameters.length) = some 0 := by decide +kernel
theorem dXKn_isFull_0 : decode cXKn_isFull 0 = .ok (.aload_n 0, 1) := by decide +kernel
theorem dXKn_isFull_1 : decode cXKn_isFull 1 = .ok (.getfield 12, 3) := by decide +kernel
theorem dXKn_isFull_4 : decode cXKn_isFull 4 = .ok (.getfield 18, 3) := by decide +kernel
theorem dXKn_isFull_7 : decode cXKn_isFull 7 = .ok (.bipush 40, 2) := by decide +kernel
theorem dXKn_isFull_9 : decode cXKn_isFull 9 = .ok (.if_icmp .lt 7, 3) := by decide +kernel
theorem dXKn_isFull_12 : decode cXKn_isFull 12 = .ok (.iconst 1, 1) := by decide +kernel
theorem dXKn_isFull_13 : decode cXKn_isFull 13 = .ok (.goto 4, 3) := by decide +kernel
theorem dXKn_isFull_16 : decode cXKn_isFull 16 = .ok (.iconst 0, 1) := by decide +kernel
theorem dXKn_isFull_17 : decode cXKn_isFull 17 = .ok (.ireturn, 1) := by decide +kernel
abbrev cXOp_isOf : ByteArray := prog_6_method_5_code
def yXOp_isOf : MethodName := ⟨RXOp, "isOf", "(II)Z"⟩
set_option maxRecDepth 100000 in
theorem qXOp_isOf : Cond.code yXOp_isOf cXOp_isOf 3 (some .boolean) ∈ lg_tbl := fx_c 448 rfl
theorem hdXOp_isOf : yXOp_isOf.cls = RXOp ∧ yXOp_isOf.cls ≠ "java/lang/invoke/MethodHandle" ∧ yXOp_isOf.cls ≠ "java/lang/invoke/VarHandle" ∧ (parseMethodDescriptor yXOp_isOf.desc).map (fun d => d.parameters.length) = some 2 := by decide +kernel
theorem dXOp_isOf_0 : decode cXOp_isOf 0 = .ok (.aload_n 0, 1) := by decide +kernel
theorem dXOp_isOf_1 : decode cXOp_isOf 1 = .ok (.getfield 15, 3) := by decide +kernel
theorem dXOp_isOf_4 : decode cXOp_isOf 4 = .ok (.iload_n 1, 1) := by decide +kernel
theorem dXOp_isOf_5 : decode cXOp_isOf 5 = .ok (.if_icmp .ne 15, 3) := by decide +kernel
theorem dXOp_isOf_8 : decode cXOp_isOf 8 = .ok (.aload_n 0, 1) := by decide +kernel
theorem dXOp_isOf_9 : decode cXOp_isOf 9 = .ok (.getfield 18, 3) := by decide +kernel
theorem dXOp_isOf_12 : decode cXOp_isOf 12 = .ok (.iload_n 2, 1) := by decide +kernel
theorem dXOp_isOf_13 : decode cXOp_isOf 13 = .ok (.if_icmp .ne 7, 3) := by decide +kernel
theorem dXOp_isOf_16 : decode cXOp_isOf 16 = .ok (.iconst 1, 1) := by decide +kernel
theorem dXOp_isOf_17 : decode cXOp_isOf 17 = .ok (.goto 4, 3) := by decide +kernel
theorem dXOp_isOf_20 : decode cXOp_isOf 20 = .ok (.iconst 0, 1) := by decide +kernel
theorem dXOp_isOf_21 : decode cXOp_isOf 21 = .ok (.ireturn, 1) := by decide +kernel
abbrev cXKn_isLockAgainst : ByteArray := prog_4_method_8_code
def yXKn_isLockAgainst : MethodName := ⟨RXKn, "isLockAgainst", "(LHashLinkedWeb$Member;LHashLinkedWeb$Member;)Z"⟩
set_option maxRecDepth 100000 in
theorem qXKn_isLockAgainst : Cond.code yXKn_isLockAgainst cXKn_isLockAgainst 2 (some .boolean) ∈ lg_tbl := fx_c 444 rfl
theorem hdXKn_isLockAgainst : yXKn_isLockAgainst.cls = RXKn ∧ yXKn_isLockAgainst.cls ≠ "java/lang/invoke/MethodHandle" ∧ yXKn_isLockAgainst.cls ≠ "java/lang/invoke/VarHandle" ∧ (parseMethodDescriptor yXKn_isLockAgainst.desc).map (fun d => d.parameters.length) = some 2 := by decide +kernel
theorem dXKn_isLockAgainst_0 : decode cXKn_isLockAgainst 0 = .ok (.aload_n 1, 1) := by decide +kernel
theorem dXKn_isLockAgainst_1 : decode cXKn_isLockAgainst 1 = .ok (.getfield 69, 3) := by decide +kernel
theorem dXKn_isLockAgainst_4 : decode cXKn_isLockAgainst 4 = .ok (.aload_n 0, 1) := by decide +kernel
theorem dXKn_isLockAgainst_5 : decode cXKn_isLockAgainst 5 = .ok (.getfield 66, 3) := by decide +kernel
theorem dXKn_isLockAgainst_8 : decode cXKn_isLockAgainst 8 = .ok (.invokestatic 42, 3) := by decide +kernel
theorem dXKn_isLockAgainst_11 : decode cXKn_isLockAgainst 11 = .ok (.ifCond .eq 42, 3) := by decide +kernel
theorem dXKn_isLockAgainst_14 : decode cXKn_isLockAgainst 14 = .ok (.aload_n 0, 1) := by decide +kernel
theorem dXKn_isLockAgainst_15 : decode cXKn_isLockAgainst 15 = .ok (.getfield 30, 3) := by decide +kernel
theorem dXKn_isLockAgainst_18 : decode cXKn_isLockAgainst 18 = .ok (.iconst 2, 1) := by decide +kernel
theorem dXKn_isLockAgainst_19 : decode cXKn_isLockAgainst 19 = .ok (.aload_n 1, 1) := by decide +kernel
theorem dXKn_isLockAgainst_20 : decode cXKn_isLockAgainst 20 = .ok (.getfield 30, 3) := by decide +kernel
theorem dXKn_isLockAgainst_23 : decode cXKn_isLockAgainst 23 = .ok (.getfield 82, 3) := by decide +kernel
theorem dXKn_isLockAgainst_26 : decode cXKn_isLockAgainst 26 = .ok (.invokevirtual 85, 3) := by decide +kernel
theorem dXKn_isLockAgainst_29 : decode cXKn_isLockAgainst 29 = .ok (.ifCond .eq 24, 3) := by decide +kernel
theorem dXKn_isLockAgainst_32 : decode cXKn_isLockAgainst 32 = .ok (.aload_n 0, 1) := by decide +kernel
theorem dXKn_isLockAgainst_33 : decode cXKn_isLockAgainst 33 = .ok (.getfield 30, 3) := by decide +kernel
theorem dXKn_isLockAgainst_36 : decode cXKn_isLockAgainst 36 = .ok (.getfield 89, 3) := by decide +kernel
theorem dXKn_isLockAgainst_39 : decode cXKn_isLockAgainst 39 = .ok (.aload_n 1, 1) := by decide +kernel
theorem dXKn_isLockAgainst_40 : decode cXKn_isLockAgainst 40 = .ok (.getfield 30, 3) := by decide +kernel
theorem dXKn_isLockAgainst_43 : decode cXKn_isLockAgainst 43 = .ok (.getfield 89, 3) := by decide +kernel
theorem dXKn_isLockAgainst_46 : decode cXKn_isLockAgainst 46 = .ok (.if_icmp .eq 7, 3) := by decide +kernel
theorem dXKn_isLockAgainst_49 : decode cXKn_isLockAgainst 49 = .ok (.iconst 1, 1) := by decide +kernel
theorem dXKn_isLockAgainst_50 : decode cXKn_isLockAgainst 50 = .ok (.goto 4, 3) := by decide +kernel
theorem dXKn_isLockAgainst_53 : decode cXKn_isLockAgainst 53 = .ok (.iconst 0, 1) := by decide +kernel
theorem dXKn_isLockAgainst_54 : decode cXKn_isLockAgainst 54 = .ok (.ireturn, 1) := by decide +kernel
abbrev cXKn_isFreed : ByteArray := prog_4_method_9_code
def yXKn_isFreed : MethodName := ⟨RXKn, "isFreed", "(LHashLinkedWeb$Member;LHashLinkedWeb$Member;)Z"⟩
set_option maxRecDepth 100000 in
theorem qXKn_isFreed : Cond.code yXKn_isFreed cXKn_isFreed 5 (some .boolean) ∈ lg_tbl := fx_c 452 rfl
theorem hdXKn_isFreed : yXKn_isFreed.cls = RXKn ∧ yXKn_isFreed.cls ≠ "java/lang/invoke/MethodHandle" ∧ yXKn_isFreed.cls ≠ "java/lang/invoke/VarHandle" ∧ (parseMethodDescriptor yXKn_isFreed.desc).map (fun d => d.parameters.length) = some 2 := by decide +kernel
theorem dXKn_isFreed_0 : decode cXKn_isFreed 0 = .ok (.iconst 0, 1) := by decide +kernel
theorem dXKn_isFreed_1 : decode cXKn_isFreed 1 = .ok (.istore_n 3, 1) := by decide +kernel
theorem dXKn_isFreed_2 : decode cXKn_isFreed 2 = .ok (.iload_n 3, 1) := by decide +kernel
theorem dXKn_isFreed_3 : decode cXKn_isFreed 3 = .ok (.aload_n 0, 1) := by decide +kernel
theorem dXKn_isFreed_4 : decode cXKn_isFreed 4 = .ok (.getfield 12, 3) := by decide +kernel
theorem dXKn_isFreed_7 : decode cXKn_isFreed 7 = .ok (.getfield 18, 3) := by decide +kernel
theorem dXKn_isFreed_10 : decode cXKn_isFreed 10 = .ok (.if_icmp .ge 85, 3) := by decide +kernel
theorem dXKn_isFreed_13 : decode cXKn_isFreed 13 = .ok (.aload_n 0, 1) := by decide +kernel
theorem dXKn_isFreed_14 : decode cXKn_isFreed 14 = .ok (.getfield 12, 3) := by decide +kernel
theorem dXKn_isFreed_17 : decode cXKn_isFreed 17 = .ok (.getfield 26, 3) := by decide +kernel
theorem dXKn_isFreed_20 : decode cXKn_isFreed 20 = .ok (.iload_n 3, 1) := by decide +kernel
theorem dXKn_isFreed_21 : decode cXKn_isFreed 21 = .ok (.aaload, 1) := by decide +kernel
theorem dXKn_isFreed_22 : decode cXKn_isFreed 22 = .ok (.astore 4, 2) := by decide +kernel
theorem dXKn_isFreed_24 : decode cXKn_isFreed 24 = .ok (.aload_n 2, 1) := by decide +kernel
theorem dXKn_isFreed_25 : decode cXKn_isFreed 25 = .ok (.getfield 69, 3) := by decide +kernel
theorem dXKn_isFreed_28 : decode cXKn_isFreed 28 = .ok (.iload_n 3, 1) := by decide +kernel
theorem dXKn_isFreed_29 : decode cXKn_isFreed 29 = .ok (.invokestatic 42, 3) := by decide +kernel
theorem dXKn_isFreed_32 : decode cXKn_isFreed 32 = .ok (.ifCond .eq 57, 3) := by decide +kernel
theorem dXKn_isFreed_35 : decode cXKn_isFreed 35 = .ok (.aload 4, 2) := by decide +kernel
theorem dXKn_isFreed_37 : decode cXKn_isFreed 37 = .ok (.getfield 30, 3) := by decide +kernel
theorem dXKn_isFreed_40 : decode cXKn_isFreed 40 = .ok (.iconst 3, 1) := by decide +kernel
theorem dXKn_isFreed_41 : decode cXKn_isFreed 41 = .ok (.aload_n 1, 1) := by decide +kernel
theorem dXKn_isFreed_42 : decode cXKn_isFreed 42 = .ok (.getfield 30, 3) := by decide +kernel
theorem dXKn_isFreed_45 : decode cXKn_isFreed 45 = .ok (.getfield 82, 3) := by decide +kernel
theorem dXKn_isFreed_48 : decode cXKn_isFreed 48 = .ok (.invokevirtual 85, 3) := by decide +kernel
theorem dXKn_isFreed_51 : decode cXKn_isFreed 51 = .ok (.ifCond .eq 38, 3) := by decide +kernel
theorem dXKn_isFreed_54 : decode cXKn_isFreed 54 = .ok (.aload 4, 2) := by decide +kernel
theorem dXKn_isFreed_56 : decode cXKn_isFreed 56 = .ok (.getfield 30, 3) := by decide +kernel
theorem dXKn_isFreed_59 : decode cXKn_isFreed 59 = .ok (.getfield 89, 3) := by decide +kernel
theorem dXKn_isFreed_62 : decode cXKn_isFreed 62 = .ok (.aload_n 1, 1) := by decide +kernel
theorem dXKn_isFreed_63 : decode cXKn_isFreed 63 = .ok (.getfield 30, 3) := by decide +kernel
theorem dXKn_isFreed_66 : decode cXKn_isFreed 66 = .ok (.getfield 89, 3) := by decide +kernel
theorem dXKn_isFreed_69 : decode cXKn_isFreed 69 = .ok (.if_icmp .ne 20, 3) := by decide +kernel
theorem dXKn_isFreed_72 : decode cXKn_isFreed 72 = .ok (.aload 4, 2) := by decide +kernel
theorem dXKn_isFreed_74 : decode cXKn_isFreed 74 = .ok (.getfield 69, 3) := by decide +kernel
theorem dXKn_isFreed_77 : decode cXKn_isFreed 77 = .ok (.aload_n 1, 1) := by decide +kernel
theorem dXKn_isFreed_78 : decode cXKn_isFreed 78 = .ok (.getfield 66, 3) := by decide +kernel
theorem dXKn_isFreed_81 : decode cXKn_isFreed 81 = .ok (.invokestatic 42, 3) := by decide +kernel
theorem dXKn_isFreed_84 : decode cXKn_isFreed 84 = .ok (.ifCond .eq 5, 3) := by decide +kernel
theorem dXKn_isFreed_87 : decode cXKn_isFreed 87 = .ok (.iconst 1, 1) := by decide +kernel
theorem dXKn_isFreed_88 : decode cXKn_isFreed 88 = .ok (.ireturn, 1) := by decide +kernel
theorem dXKn_isFreed_89 : decode cXKn_isFreed 89 = .ok (.iinc 3 1, 3) := by decide +kernel
theorem dXKn_isFreed_92 : decode cXKn_isFreed 92 = .ok (.goto (-90), 3) := by decide +kernel
theorem dXKn_isFreed_95 : decode cXKn_isFreed 95 = .ok (.iconst 0, 1) := by decide +kernel
theorem dXKn_isFreed_96 : decode cXKn_isFreed 96 = .ok (.ireturn, 1) := by decide +kernel
abbrev cXKn_isRight : ByteArray := prog_4_method_7_code
def yXKn_isRight : MethodName := ⟨RXKn, "isRight", "(LHashLinkedWeb$Member;)Z"⟩
set_option maxRecDepth 100000 in
theorem qXKn_isRight : Cond.code yXKn_isRight cXKn_isRight 5 (some .boolean) ∈ lg_tbl := fx_c 440 rfl
theorem hdXKn_isRight : yXKn_isRight.cls = RXKn ∧ yXKn_isRight.cls ≠ "java/lang/invoke/MethodHandle" ∧ yXKn_isRight.cls ≠ "java/lang/invoke/VarHandle" ∧ (parseMethodDescriptor yXKn_isRight.desc).map (fun d => d.parameters.length) = some 1 := by decide +kernel
theorem dXKn_isRight_0 : decode cXKn_isRight 0 = .ok (.iconst 0, 1) := by decide +kernel
theorem dXKn_isRight_1 : decode cXKn_isRight 1 = .ok (.istore_n 2, 1) := by decide +kernel
theorem dXKn_isRight_2 : decode cXKn_isRight 2 = .ok (.iload_n 2, 1) := by decide +kernel
theorem dXKn_isRight_3 : decode cXKn_isRight 3 = .ok (.aload_n 0, 1) := by decide +kernel
theorem dXKn_isRight_4 : decode cXKn_isRight 4 = .ok (.getfield 12, 3) := by decide +kernel
theorem dXKn_isRight_7 : decode cXKn_isRight 7 = .ok (.getfield 18, 3) := by decide +kernel
theorem dXKn_isRight_10 : decode cXKn_isRight 10 = .ok (.if_icmp .ge 75, 3) := by decide +kernel
theorem dXKn_isRight_13 : decode cXKn_isRight 13 = .ok (.aload_n 0, 1) := by decide +kernel
theorem dXKn_isRight_14 : decode cXKn_isRight 14 = .ok (.getfield 12, 3) := by decide +kernel
theorem dXKn_isRight_17 : decode cXKn_isRight 17 = .ok (.getfield 26, 3) := by decide +kernel
theorem dXKn_isRight_20 : decode cXKn_isRight 20 = .ok (.iload_n 2, 1) := by decide +kernel
theorem dXKn_isRight_21 : decode cXKn_isRight 21 = .ok (.aaload, 1) := by decide +kernel
theorem dXKn_isRight_22 : decode cXKn_isRight 22 = .ok (.astore_n 3, 1) := by decide +kernel
theorem dXKn_isRight_23 : decode cXKn_isRight 23 = .ok (.aload_n 1, 1) := by decide +kernel
theorem dXKn_isRight_24 : decode cXKn_isRight 24 = .ok (.getfield 46, 3) := by decide +kernel
theorem dXKn_isRight_27 : decode cXKn_isRight 27 = .ok (.iload_n 2, 1) := by decide +kernel
theorem dXKn_isRight_28 : decode cXKn_isRight 28 = .ok (.invokestatic 42, 3) := by decide +kernel
theorem dXKn_isRight_31 : decode cXKn_isRight 31 = .ok (.ifCond .eq 21, 3) := by decide +kernel
theorem dXKn_isRight_34 : decode cXKn_isRight 34 = .ok (.aload_n 3, 1) := by decide +kernel
theorem dXKn_isRight_35 : decode cXKn_isRight 35 = .ok (.getfield 69, 3) := by decide +kernel
theorem dXKn_isRight_38 : decode cXKn_isRight 38 = .ok (.aload_n 1, 1) := by decide +kernel
theorem dXKn_isRight_39 : decode cXKn_isRight 39 = .ok (.getfield 46, 3) := by decide +kernel
theorem dXKn_isRight_42 : decode cXKn_isRight 42 = .ok (.land, 1) := by decide +kernel
theorem dXKn_isRight_43 : decode cXKn_isRight 43 = .ok (.lconst 0, 1) := by decide +kernel
theorem dXKn_isRight_44 : decode cXKn_isRight 44 = .ok (.lcmp, 1) := by decide +kernel
theorem dXKn_isRight_45 : decode cXKn_isRight 45 = .ok (.ifCond .eq 7, 3) := by decide +kernel
theorem dXKn_isRight_48 : decode cXKn_isRight 48 = .ok (.iconst 1, 1) := by decide +kernel
theorem dXKn_isRight_49 : decode cXKn_isRight 49 = .ok (.goto 4, 3) := by decide +kernel
theorem dXKn_isRight_52 : decode cXKn_isRight 52 = .ok (.iconst 0, 1) := by decide +kernel
theorem dXKn_isRight_53 : decode cXKn_isRight 53 = .ok (.istore 4, 2) := by decide +kernel
theorem dXKn_isRight_55 : decode cXKn_isRight 55 = .ok (.iload 4, 2) := by decide +kernel
theorem dXKn_isRight_57 : decode cXKn_isRight 57 = .ok (.ifCond .ne 20, 3) := by decide +kernel
theorem dXKn_isRight_60 : decode cXKn_isRight 60 = .ok (.aload_n 3, 1) := by decide +kernel
theorem dXKn_isRight_61 : decode cXKn_isRight 61 = .ok (.aload_n 1, 1) := by decide +kernel
theorem dXKn_isRight_62 : decode cXKn_isRight 62 = .ok (.invokestatic 75, 3) := by decide +kernel
theorem dXKn_isRight_65 : decode cXKn_isRight 65 = .ok (.ifCond .eq 14, 3) := by decide +kernel
theorem dXKn_isRight_68 : decode cXKn_isRight 68 = .ok (.aload_n 0, 1) := by decide +kernel
theorem dXKn_isRight_69 : decode cXKn_isRight 69 = .ok (.aload_n 3, 1) := by decide +kernel
theorem dXKn_isRight_70 : decode cXKn_isRight 70 = .ok (.aload_n 1, 1) := by decide +kernel
theorem dXKn_isRight_71 : decode cXKn_isRight 71 = .ok (.invokevirtual 79, 3) := by decide +kernel
theorem dXKn_isRight_74 : decode cXKn_isRight 74 = .ok (.ifCond .ne 5, 3) := by decide +kernel
theorem dXKn_isRight_77 : decode cXKn_isRight 77 = .ok (.iconst 0, 1) := by decide +kernel
theorem dXKn_isRight_78 : decode cXKn_isRight 78 = .ok (.ireturn, 1) := by decide +kernel
theorem dXKn_isRight_79 : decode cXKn_isRight 79 = .ok (.iinc 2 1, 3) := by decide +kernel
theorem dXKn_isRight_82 : decode cXKn_isRight 82 = .ok (.goto (-80), 3) := by decide +kernel
theorem dXKn_isRight_85 : decode cXKn_isRight 85 = .ok (.iconst 1, 1) := by decide +kernel
theorem dXKn_isRight_86 : decode cXKn_isRight 86 = .ok (.ireturn, 1) := by decide +kernel
abbrev cXRo_insert : ByteArray := prog_8_method_3_code
def yXRo_insert : MethodName := ⟨RXRo, "insert", "(ILHashLinkedWeb$Member;)V"⟩
set_option maxRecDepth 100000 in
theorem qXRo_insert : Cond.code yXRo_insert cXRo_insert 4 none ∈ lg_tbl := fx_c 460 rfl
theorem hdXRo_insert : yXRo_insert.cls = RXRo ∧ yXRo_insert.cls ≠ "java/lang/invoke/MethodHandle" ∧ yXRo_insert.cls ≠ "java/lang/invoke/VarHandle" ∧ (parseMethodDescriptor yXRo_insert.desc).map (fun d => d.parameters.length) = some 2 := by decide +kernel
theorem dXRo_insert_0 : decode cXRo_insert 0 = .ok (.iload_n 1, 1) := by decide +kernel
theorem dXRo_insert_1 : decode cXRo_insert 1 = .ok (.ifCond .lt 20, 3) := by decide +kernel
theorem dXRo_insert_4 : decode cXRo_insert 4 = .ok (.iload_n 1, 1) := by decide +kernel
theorem dXRo_insert_5 : decode cXRo_insert 5 = .ok (.aload_n 0, 1) := by decide +kernel
theorem dXRo_insert_6 : decode cXRo_insert 6 = .ok (.getfield 17, 3) := by decide +kernel
theorem dXRo_insert_9 : decode cXRo_insert 9 = .ok (.if_icmp .gt 12, 3) := by decide +kernel
theorem dXRo_insert_12 : decode cXRo_insert 12 = .ok (.aload_n 0, 1) := by decide +kernel
theorem dXRo_insert_13 : decode cXRo_insert 13 = .ok (.getfield 17, 3) := by decide +kernel
theorem dXRo_insert_16 : decode cXRo_insert 16 = .ok (.bipush 40, 2) := by decide +kernel
theorem dXRo_insert_18 : decode cXRo_insert 18 = .ok (.if_icmp .lt 4, 3) := by decide +kernel
theorem dXRo_insert_21 : decode cXRo_insert 21 = .ok (.return_, 1) := by decide +kernel
theorem dXRo_insert_22 : decode cXRo_insert 22 = .ok (.aload_n 0, 1) := by decide +kernel
theorem dXRo_insert_23 : decode cXRo_insert 23 = .ok (.getfield 17, 3) := by decide +kernel
theorem dXRo_insert_26 : decode cXRo_insert 26 = .ok (.istore_n 3, 1) := by decide +kernel
theorem dXRo_insert_27 : decode cXRo_insert 27 = .ok (.iload_n 3, 1) := by decide +kernel
theorem dXRo_insert_28 : decode cXRo_insert 28 = .ok (.iload_n 1, 1) := by decide +kernel
theorem dXRo_insert_29 : decode cXRo_insert 29 = .ok (.if_icmp .le 23, 3) := by decide +kernel
theorem dXRo_insert_32 : decode cXRo_insert 32 = .ok (.aload_n 0, 1) := by decide +kernel
theorem dXRo_insert_33 : decode cXRo_insert 33 = .ok (.getfield 11, 3) := by decide +kernel
theorem dXRo_insert_36 : decode cXRo_insert 36 = .ok (.iload_n 3, 1) := by decide +kernel
theorem dXRo_insert_37 : decode cXRo_insert 37 = .ok (.aload_n 0, 1) := by decide +kernel
theorem dXRo_insert_38 : decode cXRo_insert 38 = .ok (.getfield 11, 3) := by decide +kernel
theorem dXRo_insert_41 : decode cXRo_insert 41 = .ok (.iload_n 3, 1) := by decide +kernel
theorem dXRo_insert_42 : decode cXRo_insert 42 = .ok (.iconst 1, 1) := by decide +kernel
theorem dXRo_insert_43 : decode cXRo_insert 43 = .ok (.isub, 1) := by decide +kernel
theorem dXRo_insert_44 : decode cXRo_insert 44 = .ok (.aaload, 1) := by decide +kernel
theorem dXRo_insert_45 : decode cXRo_insert 45 = .ok (.aastore, 1) := by decide +kernel
theorem dXRo_insert_46 : decode cXRo_insert 46 = .ok (.iinc 3 (-1), 3) := by decide +kernel
theorem dXRo_insert_49 : decode cXRo_insert 49 = .ok (.goto (-22), 3) := by decide +kernel
theorem dXRo_insert_52 : decode cXRo_insert 52 = .ok (.aload_n 0, 1) := by decide +kernel
theorem dXRo_insert_53 : decode cXRo_insert 53 = .ok (.getfield 11, 3) := by decide +kernel
theorem dXRo_insert_56 : decode cXRo_insert 56 = .ok (.iload_n 1, 1) := by decide +kernel
theorem dXRo_insert_57 : decode cXRo_insert 57 = .ok (.aload_n 2, 1) := by decide +kernel
theorem dXRo_insert_58 : decode cXRo_insert 58 = .ok (.aastore, 1) := by decide +kernel
theorem dXRo_insert_59 : decode cXRo_insert 59 = .ok (.aload_n 0, 1) := by decide +kernel
theorem dXRo_insert_60 : decode cXRo_insert 60 = .ok (.dup, 1) := by decide +kernel
theorem dXRo_insert_61 : decode cXRo_insert 61 = .ok (.getfield 17, 3) := by decide +kernel
theorem dXRo_insert_64 : decode cXRo_insert 64 = .ok (.iconst 1, 1) := by decide +kernel
theorem dXRo_insert_65 : decode cXRo_insert 65 = .ok (.iadd, 1) := by decide +kernel
theorem dXRo_insert_66 : decode cXRo_insert 66 = .ok (.putfield 17, 3) := by decide +kernel
theorem dXRo_insert_69 : decode cXRo_insert 69 = .ok (.return_, 1) := by decide +kernel
abbrev cXKn_add : ByteArray := prog_4_method_3_code
def yXKn_add : MethodName := ⟨RXKn, "add", "(LHashLinkedWeb$Member;)V"⟩
set_option maxRecDepth 100000 in
theorem qXKn_add : Cond.code yXKn_add cXKn_add 2 none ∈ lg_tbl := fx_c 456 rfl
theorem hdXKn_add : yXKn_add.cls = RXKn ∧ yXKn_add.cls ≠ "java/lang/invoke/MethodHandle" ∧ yXKn_add.cls ≠ "java/lang/invoke/VarHandle" ∧ (parseMethodDescriptor yXKn_add.desc).map (fun d => d.parameters.length) = some 1 := by decide +kernel
theorem dXKn_add_0 : decode cXKn_add 0 = .ok (.aload_n 0, 1) := by decide +kernel
theorem dXKn_add_1 : decode cXKn_add 1 = .ok (.getfield 12, 3) := by decide +kernel
theorem dXKn_add_4 : decode cXKn_add 4 = .ok (.aload_n 0, 1) := by decide +kernel
theorem dXKn_add_5 : decode cXKn_add 5 = .ok (.getfield 12, 3) := by decide +kernel
theorem dXKn_add_8 : decode cXKn_add 8 = .ok (.getfield 18, 3) := by decide +kernel
theorem dXKn_add_11 : decode cXKn_add 11 = .ok (.aload_n 1, 1) := by decide +kernel
theorem dXKn_add_12 : decode cXKn_add 12 = .ok (.invokevirtual 22, 3) := by decide +kernel
theorem dXKn_add_15 : decode cXKn_add 15 = .ok (.return_, 1) := by decide +kernel
abbrev cXMe_standsBefore : ByteArray := prog_5_method_2_code
def yXMe_standsBefore : MethodName := ⟨RXMe, "standsBefore", "(LHashLinkedWeb$Member;)Z"⟩
set_option maxRecDepth 100000 in
theorem qXMe_standsBefore : Cond.code yXMe_standsBefore cXMe_standsBefore 2 (some .boolean) ∈ lg_tbl := fx_c 472 rfl
theorem hdXMe_standsBefore : yXMe_standsBefore.cls = RXMe ∧ yXMe_standsBefore.cls ≠ "java/lang/invoke/MethodHandle" ∧ yXMe_standsBefore.cls ≠ "java/lang/invoke/VarHandle" ∧ (parseMethodDescriptor yXMe_standsBefore.desc).map (fun d => d.parameters.length) = some 1 := by decide +kernel
theorem dXMe_standsBefore_0 : decode cXMe_standsBefore 0 = .ok (.aload_n 0, 1) := by decide +kernel
theorem dXMe_standsBefore_1 : decode cXMe_standsBefore 1 = .ok (.getfield 17, 3) := by decide +kernel
theorem dXMe_standsBefore_4 : decode cXMe_standsBefore 4 = .ok (.aload_n 1, 1) := by decide +kernel
theorem dXMe_standsBefore_5 : decode cXMe_standsBefore 5 = .ok (.getfield 17, 3) := by decide +kernel
theorem dXMe_standsBefore_8 : decode cXMe_standsBefore 8 = .ok (.if_icmp .eq 22, 3) := by decide +kernel
theorem dXMe_standsBefore_11 : decode cXMe_standsBefore 11 = .ok (.aload_n 0, 1) := by decide +kernel
theorem dXMe_standsBefore_12 : decode cXMe_standsBefore 12 = .ok (.getfield 17, 3) := by decide +kernel
theorem dXMe_standsBefore_15 : decode cXMe_standsBefore 15 = .ok (.aload_n 1, 1) := by decide +kernel
theorem dXMe_standsBefore_16 : decode cXMe_standsBefore 16 = .ok (.getfield 17, 3) := by decide +kernel
theorem dXMe_standsBefore_19 : decode cXMe_standsBefore 19 = .ok (.if_icmp .ge 7, 3) := by decide +kernel
theorem dXMe_standsBefore_22 : decode cXMe_standsBefore 22 = .ok (.iconst 1, 1) := by decide +kernel
theorem dXMe_standsBefore_23 : decode cXMe_standsBefore 23 = .ok (.goto 30, 3) := by decide +kernel
theorem dXMe_standsBefore_26 : decode cXMe_standsBefore 26 = .ok (.iconst 0, 1) := by decide +kernel
theorem dXMe_standsBefore_27 : decode cXMe_standsBefore 27 = .ok (.goto 26, 3) := by decide +kernel
theorem dXMe_standsBefore_30 : decode cXMe_standsBefore 30 = .ok (.aload_n 0, 1) := by decide +kernel
theorem dXMe_standsBefore_31 : decode cXMe_standsBefore 31 = .ok (.getfield 7, 3) := by decide +kernel
theorem dXMe_standsBefore_34 : decode cXMe_standsBefore 34 = .ok (.getfield 27, 3) := by decide +kernel
theorem dXMe_standsBefore_37 : decode cXMe_standsBefore 37 = .ok (.aload_n 1, 1) := by decide +kernel
theorem dXMe_standsBefore_38 : decode cXMe_standsBefore 38 = .ok (.getfield 7, 3) := by decide +kernel
theorem dXMe_standsBefore_41 : decode cXMe_standsBefore 41 = .ok (.getfield 27, 3) := by decide +kernel
theorem dXMe_standsBefore_44 : decode cXMe_standsBefore 44 = .ok (.lcmp, 1) := by decide +kernel
theorem dXMe_standsBefore_45 : decode cXMe_standsBefore 45 = .ok (.ifCond .ge 7, 3) := by decide +kernel
theorem dXMe_standsBefore_48 : decode cXMe_standsBefore 48 = .ok (.iconst 1, 1) := by decide +kernel
theorem dXMe_standsBefore_49 : decode cXMe_standsBefore 49 = .ok (.goto 4, 3) := by decide +kernel
theorem dXMe_standsBefore_52 : decode cXMe_standsBefore 52 = .ok (.iconst 0, 1) := by decide +kernel
theorem dXMe_standsBefore_53 : decode cXMe_standsBefore 53 = .ok (.ireturn, 1) := by decide +kernel
abbrev cXRe_placeInOrder : ByteArray := prog_7_method_9_code
def yXRe_placeInOrder : MethodName := ⟨RXRe, "placeInOrder", "(LHashLinkedWeb$Member;)I"⟩
set_option maxRecDepth 100000 in
theorem qXRe_placeInOrder : Cond.code yXRe_placeInOrder cXRe_placeInOrder 3 (some .int) ∈ lg_tbl := fx_c 468 rfl
theorem hdXRe_placeInOrder : yXRe_placeInOrder.cls = RXRe ∧ yXRe_placeInOrder.cls ≠ "java/lang/invoke/MethodHandle" ∧ yXRe_placeInOrder.cls ≠ "java/lang/invoke/VarHandle" ∧ (parseMethodDescriptor yXRe_placeInOrder.desc).map (fun d => d.parameters.length) = some 1 := by decide +kernel
theorem dXRe_placeInOrder_0 : decode cXRe_placeInOrder 0 = .ok (.iconst 0, 1) := by decide +kernel
theorem dXRe_placeInOrder_1 : decode cXRe_placeInOrder 1 = .ok (.istore_n 2, 1) := by decide +kernel
theorem dXRe_placeInOrder_2 : decode cXRe_placeInOrder 2 = .ok (.iload_n 2, 1) := by decide +kernel
theorem dXRe_placeInOrder_3 : decode cXRe_placeInOrder 3 = .ok (.aload_n 0, 1) := by decide +kernel
theorem dXRe_placeInOrder_4 : decode cXRe_placeInOrder 4 = .ok (.getfield 12, 3) := by decide +kernel
theorem dXRe_placeInOrder_7 : decode cXRe_placeInOrder 7 = .ok (.getfield 137, 3) := by decide +kernel
theorem dXRe_placeInOrder_10 : decode cXRe_placeInOrder 10 = .ok (.if_icmp .ge 25, 3) := by decide +kernel
theorem dXRe_placeInOrder_13 : decode cXRe_placeInOrder 13 = .ok (.aload_n 0, 1) := by decide +kernel
theorem dXRe_placeInOrder_14 : decode cXRe_placeInOrder 14 = .ok (.getfield 12, 3) := by decide +kernel
theorem dXRe_placeInOrder_17 : decode cXRe_placeInOrder 17 = .ok (.getfield 139, 3) := by decide +kernel
theorem dXRe_placeInOrder_20 : decode cXRe_placeInOrder 20 = .ok (.iload_n 2, 1) := by decide +kernel
theorem dXRe_placeInOrder_21 : decode cXRe_placeInOrder 21 = .ok (.aaload, 1) := by decide +kernel
theorem dXRe_placeInOrder_22 : decode cXRe_placeInOrder 22 = .ok (.aload_n 1, 1) := by decide +kernel
theorem dXRe_placeInOrder_23 : decode cXRe_placeInOrder 23 = .ok (.invokevirtual 143, 3) := by decide +kernel
theorem dXRe_placeInOrder_26 : decode cXRe_placeInOrder 26 = .ok (.ifCond .eq 9, 3) := by decide +kernel
theorem dXRe_placeInOrder_29 : decode cXRe_placeInOrder 29 = .ok (.iinc 2 1, 3) := by decide +kernel
theorem dXRe_placeInOrder_32 : decode cXRe_placeInOrder 32 = .ok (.goto (-30), 3) := by decide +kernel
theorem dXRe_placeInOrder_35 : decode cXRe_placeInOrder 35 = .ok (.iload_n 2, 1) := by decide +kernel
theorem dXRe_placeInOrder_36 : decode cXRe_placeInOrder 36 = .ok (.ireturn, 1) := by decide +kernel
abbrev cXRo_removeAll : ByteArray := prog_8_method_4_code
def yXRo_removeAll : MethodName := ⟨RXRo, "removeAll", "(J)V"⟩
set_option maxRecDepth 100000 in
theorem qXRo_removeAll : Cond.code yXRo_removeAll cXRo_removeAll 5 none ∈ lg_tbl := fx_c 477 rfl
theorem hdXRo_removeAll : yXRo_removeAll.cls = RXRo ∧ yXRo_removeAll.cls ≠ "java/lang/invoke/MethodHandle" ∧ yXRo_removeAll.cls ≠ "java/lang/invoke/VarHandle" ∧ (parseMethodDescriptor yXRo_removeAll.desc).map (fun d => d.parameters.length) = some 1 := by decide +kernel
theorem dXRo_removeAll_0 : decode cXRo_removeAll 0 = .ok (.iconst 0, 1) := by decide +kernel
theorem dXRo_removeAll_1 : decode cXRo_removeAll 1 = .ok (.istore_n 3, 1) := by decide +kernel
theorem dXRo_removeAll_2 : decode cXRo_removeAll 2 = .ok (.iconst 0, 1) := by decide +kernel
theorem dXRo_removeAll_3 : decode cXRo_removeAll 3 = .ok (.istore 4, 2) := by decide +kernel
theorem dXRo_removeAll_5 : decode cXRo_removeAll 5 = .ok (.iload 4, 2) := by decide +kernel
theorem dXRo_removeAll_7 : decode cXRo_removeAll 7 = .ok (.aload_n 0, 1) := by decide +kernel
theorem dXRo_removeAll_8 : decode cXRo_removeAll 8 = .ok (.getfield 17, 3) := by decide +kernel
theorem dXRo_removeAll_11 : decode cXRo_removeAll 11 = .ok (.if_icmp .ge 42, 3) := by decide +kernel
theorem dXRo_removeAll_14 : decode cXRo_removeAll 14 = .ok (.lload_n 1, 1) := by decide +kernel
theorem dXRo_removeAll_15 : decode cXRo_removeAll 15 = .ok (.aload_n 0, 1) := by decide +kernel
theorem dXRo_removeAll_16 : decode cXRo_removeAll 16 = .ok (.getfield 11, 3) := by decide +kernel
theorem dXRo_removeAll_19 : decode cXRo_removeAll 19 = .ok (.iload 4, 2) := by decide +kernel
theorem dXRo_removeAll_21 : decode cXRo_removeAll 21 = .ok (.aaload, 1) := by decide +kernel
theorem dXRo_removeAll_22 : decode cXRo_removeAll 22 = .ok (.getfield 21, 3) := by decide +kernel
theorem dXRo_removeAll_25 : decode cXRo_removeAll 25 = .ok (.invokestatic 24, 3) := by decide +kernel
theorem dXRo_removeAll_28 : decode cXRo_removeAll 28 = .ok (.ifCond .ne 19, 3) := by decide +kernel
theorem dXRo_removeAll_31 : decode cXRo_removeAll 31 = .ok (.aload_n 0, 1) := by decide +kernel
theorem dXRo_removeAll_32 : decode cXRo_removeAll 32 = .ok (.getfield 11, 3) := by decide +kernel
theorem dXRo_removeAll_35 : decode cXRo_removeAll 35 = .ok (.iload_n 3, 1) := by decide +kernel
theorem dXRo_removeAll_36 : decode cXRo_removeAll 36 = .ok (.aload_n 0, 1) := by decide +kernel
theorem dXRo_removeAll_37 : decode cXRo_removeAll 37 = .ok (.getfield 11, 3) := by decide +kernel
theorem dXRo_removeAll_40 : decode cXRo_removeAll 40 = .ok (.iload 4, 2) := by decide +kernel
theorem dXRo_removeAll_42 : decode cXRo_removeAll 42 = .ok (.aaload, 1) := by decide +kernel
theorem dXRo_removeAll_43 : decode cXRo_removeAll 43 = .ok (.aastore, 1) := by decide +kernel
theorem dXRo_removeAll_44 : decode cXRo_removeAll 44 = .ok (.iinc 3 1, 3) := by decide +kernel
theorem dXRo_removeAll_47 : decode cXRo_removeAll 47 = .ok (.iinc 4 1, 3) := by decide +kernel
theorem dXRo_removeAll_50 : decode cXRo_removeAll 50 = .ok (.goto (-45), 3) := by decide +kernel
theorem dXRo_removeAll_53 : decode cXRo_removeAll 53 = .ok (.aload_n 0, 1) := by decide +kernel
theorem dXRo_removeAll_54 : decode cXRo_removeAll 54 = .ok (.iload_n 3, 1) := by decide +kernel
theorem dXRo_removeAll_55 : decode cXRo_removeAll 55 = .ok (.putfield 17, 3) := by decide +kernel
theorem dXRo_removeAll_58 : decode cXRo_removeAll 58 = .ok (.return_, 1) := by decide +kernel
abbrev cXRe_placeInHeads : ByteArray := prog_7_method_10_code
def yXRe_placeInHeads : MethodName := ⟨RXRe, "placeInHeads", "(LHashLinkedWeb$Member;)I"⟩
set_option maxRecDepth 100000 in
theorem qXRe_placeInHeads : Cond.code yXRe_placeInHeads cXRe_placeInHeads 3 (some .int) ∈ lg_tbl := fx_c 482 rfl
theorem hdXRe_placeInHeads : yXRe_placeInHeads.cls = RXRe ∧ yXRe_placeInHeads.cls ≠ "java/lang/invoke/MethodHandle" ∧ yXRe_placeInHeads.cls ≠ "java/lang/invoke/VarHandle" ∧ (parseMethodDescriptor yXRe_placeInHeads.desc).map (fun d => d.parameters.length) = some 1 := by decide +kernel
theorem dXRe_placeInHeads_0 : decode cXRe_placeInHeads 0 = .ok (.iconst 0, 1) := by decide +kernel
theorem dXRe_placeInHeads_1 : decode cXRe_placeInHeads 1 = .ok (.istore_n 2, 1) := by decide +kernel
theorem dXRe_placeInHeads_2 : decode cXRe_placeInHeads 2 = .ok (.iload_n 2, 1) := by decide +kernel
theorem dXRe_placeInHeads_3 : decode cXRe_placeInHeads 3 = .ok (.aload_n 0, 1) := by decide +kernel
theorem dXRe_placeInHeads_4 : decode cXRe_placeInHeads 4 = .ok (.getfield 18, 3) := by decide +kernel
theorem dXRe_placeInHeads_7 : decode cXRe_placeInHeads 7 = .ok (.getfield 137, 3) := by decide +kernel
theorem dXRe_placeInHeads_10 : decode cXRe_placeInHeads 10 = .ok (.if_icmp .ge 35, 3) := by decide +kernel
theorem dXRe_placeInHeads_13 : decode cXRe_placeInHeads 13 = .ok (.aload_n 0, 1) := by decide +kernel
theorem dXRe_placeInHeads_14 : decode cXRe_placeInHeads 14 = .ok (.getfield 18, 3) := by decide +kernel
theorem dXRe_placeInHeads_17 : decode cXRe_placeInHeads 17 = .ok (.getfield 139, 3) := by decide +kernel
theorem dXRe_placeInHeads_20 : decode cXRe_placeInHeads 20 = .ok (.iload_n 2, 1) := by decide +kernel
theorem dXRe_placeInHeads_21 : decode cXRe_placeInHeads 21 = .ok (.aaload, 1) := by decide +kernel
theorem dXRe_placeInHeads_22 : decode cXRe_placeInHeads 22 = .ok (.getfield 77, 3) := by decide +kernel
theorem dXRe_placeInHeads_25 : decode cXRe_placeInHeads 25 = .ok (.getfield 74, 3) := by decide +kernel
theorem dXRe_placeInHeads_28 : decode cXRe_placeInHeads 28 = .ok (.aload_n 1, 1) := by decide +kernel
theorem dXRe_placeInHeads_29 : decode cXRe_placeInHeads 29 = .ok (.getfield 77, 3) := by decide +kernel
theorem dXRe_placeInHeads_32 : decode cXRe_placeInHeads 32 = .ok (.getfield 74, 3) := by decide +kernel
theorem dXRe_placeInHeads_35 : decode cXRe_placeInHeads 35 = .ok (.lcmp, 1) := by decide +kernel
theorem dXRe_placeInHeads_36 : decode cXRe_placeInHeads 36 = .ok (.ifCond .ge 9, 3) := by decide +kernel
theorem dXRe_placeInHeads_39 : decode cXRe_placeInHeads 39 = .ok (.iinc 2 1, 3) := by decide +kernel
theorem dXRe_placeInHeads_42 : decode cXRe_placeInHeads 42 = .ok (.goto (-40), 3) := by decide +kernel
theorem dXRe_placeInHeads_45 : decode cXRe_placeInHeads 45 = .ok (.iload_n 2, 1) := by decide +kernel
theorem dXRe_placeInHeads_46 : decode cXRe_placeInHeads 46 = .ok (.ireturn, 1) := by decide +kernel
abbrev cXRe_hold : ByteArray := prog_7_method_8_code
def yXRe_hold : MethodName := ⟨RXRe, "hold", "(LHashLinkedWeb$Member;)V"⟩
set_option maxRecDepth 100000 in
theorem qXRe_hold : Cond.code yXRe_hold cXRe_hold 2 none ∈ lg_tbl := fx_c 464 rfl
theorem hdXRe_hold : yXRe_hold.cls = RXRe ∧ yXRe_hold.cls ≠ "java/lang/invoke/MethodHandle" ∧ yXRe_hold.cls ≠ "java/lang/invoke/VarHandle" ∧ (parseMethodDescriptor yXRe_hold.desc).map (fun d => d.parameters.length) = some 1 := by decide +kernel
theorem dXRe_hold_0 : decode cXRe_hold 0 = .ok (.aload_n 0, 1) := by decide +kernel
theorem dXRe_hold_1 : decode cXRe_hold 1 = .ok (.dup, 1) := by decide +kernel
theorem dXRe_hold_2 : decode cXRe_hold 2 = .ok (.getfield 32, 3) := by decide +kernel
theorem dXRe_hold_5 : decode cXRe_hold 5 = .ok (.lconst 1, 1) := by decide +kernel
theorem dXRe_hold_6 : decode cXRe_hold 6 = .ok (.aload_n 1, 1) := by decide +kernel
theorem dXRe_hold_7 : decode cXRe_hold 7 = .ok (.getfield 36, 3) := by decide +kernel
theorem dXRe_hold_10 : decode cXRe_hold 10 = .ok (.lshl, 1) := by decide +kernel
theorem dXRe_hold_11 : decode cXRe_hold 11 = .ok (.lor, 1) := by decide +kernel
theorem dXRe_hold_12 : decode cXRe_hold 12 = .ok (.putfield 32, 3) := by decide +kernel
theorem dXRe_hold_15 : decode cXRe_hold 15 = .ok (.aload_n 0, 1) := by decide +kernel
theorem dXRe_hold_16 : decode cXRe_hold 16 = .ok (.getfield 12, 3) := by decide +kernel
theorem dXRe_hold_19 : decode cXRe_hold 19 = .ok (.aload_n 0, 1) := by decide +kernel
theorem dXRe_hold_20 : decode cXRe_hold 20 = .ok (.aload_n 1, 1) := by decide +kernel
theorem dXRe_hold_21 : decode cXRe_hold 21 = .ok (.invokevirtual 119, 3) := by decide +kernel
theorem dXRe_hold_24 : decode cXRe_hold 24 = .ok (.aload_n 1, 1) := by decide +kernel
theorem dXRe_hold_25 : decode cXRe_hold 25 = .ok (.invokevirtual 123, 3) := by decide +kernel
theorem dXRe_hold_28 : decode cXRe_hold 28 = .ok (.aload_n 0, 1) := by decide +kernel
theorem dXRe_hold_29 : decode cXRe_hold 29 = .ok (.getfield 18, 3) := by decide +kernel
theorem dXRe_hold_32 : decode cXRe_hold 32 = .ok (.aload_n 1, 1) := by decide +kernel
theorem dXRe_hold_33 : decode cXRe_hold 33 = .ok (.getfield 127, 3) := by decide +kernel
theorem dXRe_hold_36 : decode cXRe_hold 36 = .ok (.invokevirtual 130, 3) := by decide +kernel
theorem dXRe_hold_39 : decode cXRe_hold 39 = .ok (.aload_n 0, 1) := by decide +kernel
theorem dXRe_hold_40 : decode cXRe_hold 40 = .ok (.getfield 18, 3) := by decide +kernel
theorem dXRe_hold_43 : decode cXRe_hold 43 = .ok (.aload_n 0, 1) := by decide +kernel
theorem dXRe_hold_44 : decode cXRe_hold 44 = .ok (.aload_n 1, 1) := by decide +kernel
theorem dXRe_hold_45 : decode cXRe_hold 45 = .ok (.invokevirtual 134, 3) := by decide +kernel
theorem dXRe_hold_48 : decode cXRe_hold 48 = .ok (.aload_n 1, 1) := by decide +kernel
theorem dXRe_hold_49 : decode cXRe_hold 49 = .ok (.invokevirtual 123, 3) := by decide +kernel
theorem dXRe_hold_52 : decode cXRe_hold 52 = .ok (.return_, 1) := by decide +kernel
abbrev cXRe_receive : ByteArray := prog_7_method_5_code
def yXRe_receive : MethodName := ⟨RXRe, "receive", "(LHashLinkedWeb$Operation;)I"⟩
set_option maxRecDepth 100000 in
theorem qXRe_receive : Cond.code yXRe_receive cXRe_receive 4 (some .int) ∈ lg_tbl := fx_c 287 rfl
theorem hdXRe_receive : yXRe_receive.cls = RXRe ∧ yXRe_receive.cls ≠ "java/lang/invoke/MethodHandle" ∧ yXRe_receive.cls ≠ "java/lang/invoke/VarHandle" ∧ (parseMethodDescriptor yXRe_receive.desc).map (fun d => d.parameters.length) = some 1 := by decide +kernel
theorem dXRe_receive_0 : decode cXRe_receive 0 = .ok (.aload_n 0, 1) := by decide +kernel
theorem dXRe_receive_1 : decode cXRe_receive 1 = .ok (.getfield 28, 3) := by decide +kernel
theorem dXRe_receive_4 : decode cXRe_receive 4 = .ok (.aload_n 1, 1) := by decide +kernel
theorem dXRe_receive_5 : decode cXRe_receive 5 = .ok (.getfield 74, 3) := by decide +kernel
theorem dXRe_receive_8 : decode cXRe_receive 8 = .ok (.invokevirtual 52, 3) := by decide +kernel
theorem dXRe_receive_11 : decode cXRe_receive 11 = .ok (.astore_n 2, 1) := by decide +kernel
theorem dXRe_receive_12 : decode cXRe_receive 12 = .ok (.aload_n 0, 1) := by decide +kernel
theorem dXRe_receive_13 : decode cXRe_receive 13 = .ok (.aload_n 2, 1) := by decide +kernel
theorem dXRe_receive_14 : decode cXRe_receive 14 = .ok (.invokevirtual 58, 3) := by decide +kernel
theorem dXRe_receive_17 : decode cXRe_receive 17 = .ok (.ifCond .eq 5, 3) := by decide +kernel
theorem dXRe_receive_20 : decode cXRe_receive 20 = .ok (.iconst 0, 1) := by decide +kernel
theorem dXRe_receive_21 : decode cXRe_receive 21 = .ok (.ireturn, 1) := by decide +kernel
theorem dXRe_receive_22 : decode cXRe_receive 22 = .ok (.aload_n 2, 1) := by decide +kernel
theorem dXRe_receive_23 : decode cXRe_receive 23 = .ok (.ifnonnull 7, 3) := by decide +kernel
theorem dXRe_receive_26 : decode cXRe_receive 26 = .ok (.aload_n 1, 1) := by decide +kernel
theorem dXRe_receive_27 : decode cXRe_receive 27 = .ok (.goto 7, 3) := by decide +kernel
theorem dXRe_receive_30 : decode cXRe_receive 30 = .ok (.aload_n 2, 1) := by decide +kernel
theorem dXRe_receive_31 : decode cXRe_receive 31 = .ok (.getfield 77, 3) := by decide +kernel
theorem dXRe_receive_34 : decode cXRe_receive 34 = .ok (.astore_n 3, 1) := by decide +kernel
theorem dXRe_receive_35 : decode cXRe_receive 35 = .ok (.aload_n 3, 1) := by decide +kernel
theorem dXRe_receive_36 : decode cXRe_receive 36 = .ok (.invokevirtual 81, 3) := by decide +kernel
theorem dXRe_receive_39 : decode cXRe_receive 39 = .ok (.ifCond .ne 5, 3) := by decide +kernel
theorem dXRe_receive_42 : decode cXRe_receive 42 = .ok (.iconst 3, 1) := by decide +kernel
theorem dXRe_receive_43 : decode cXRe_receive 43 = .ok (.ireturn, 1) := by decide +kernel
theorem dXRe_receive_44 : decode cXRe_receive 44 = .ok (.aload_n 0, 1) := by decide +kernel
theorem dXRe_receive_45 : decode cXRe_receive 45 = .ok (.aload_n 3, 1) := by decide +kernel
theorem dXRe_receive_46 : decode cXRe_receive 46 = .ok (.invokevirtual 85, 3) := by decide +kernel
theorem dXRe_receive_49 : decode cXRe_receive 49 = .ok (.ifCond .ne 10, 3) := by decide +kernel
theorem dXRe_receive_52 : decode cXRe_receive 52 = .ok (.aload_n 0, 1) := by decide +kernel
theorem dXRe_receive_53 : decode cXRe_receive 53 = .ok (.aload_n 3, 1) := by decide +kernel
theorem dXRe_receive_54 : decode cXRe_receive 54 = .ok (.invokevirtual 89, 3) := by decide +kernel
theorem dXRe_receive_57 : decode cXRe_receive 57 = .ok (.iconst 2, 1) := by decide +kernel
theorem dXRe_receive_58 : decode cXRe_receive 58 = .ok (.ireturn, 1) := by decide +kernel
theorem dXRe_receive_59 : decode cXRe_receive 59 = .ok (.aload_n 2, 1) := by decide +kernel
theorem dXRe_receive_60 : decode cXRe_receive 60 = .ok (.ifnonnull 43, 3) := by decide +kernel
theorem dXRe_receive_63 : decode cXRe_receive 63 = .ok (.aload_n 0, 1) := by decide +kernel
theorem dXRe_receive_64 : decode cXRe_receive 64 = .ok (.getfield 28, 3) := by decide +kernel
theorem dXRe_receive_67 : decode cXRe_receive 67 = .ok (.aload_n 3, 1) := by decide +kernel
theorem dXRe_receive_68 : decode cXRe_receive 68 = .ok (.invokevirtual 93, 3) := by decide +kernel
theorem dXRe_receive_71 : decode cXRe_receive 71 = .ok (.astore_n 2, 1) := by decide +kernel
theorem dXRe_receive_72 : decode cXRe_receive 72 = .ok (.aload_n 0, 1) := by decide +kernel
theorem dXRe_receive_73 : decode cXRe_receive 73 = .ok (.getfield 28, 3) := by decide +kernel
theorem dXRe_receive_76 : decode cXRe_receive 76 = .ok (.invokevirtual 97, 3) := by decide +kernel
theorem dXRe_receive_79 : decode cXRe_receive 79 = .ok (.ifCond .ne 14, 3) := by decide +kernel
theorem dXRe_receive_82 : decode cXRe_receive 82 = .ok (.aload_n 0, 1) := by decide +kernel
theorem dXRe_receive_83 : decode cXRe_receive 83 = .ok (.getfield 28, 3) := by decide +kernel
theorem dXRe_receive_86 : decode cXRe_receive 86 = .ok (.aload_n 2, 1) := by decide +kernel
theorem dXRe_receive_87 : decode cXRe_receive 87 = .ok (.invokevirtual 100, 3) := by decide +kernel
theorem dXRe_receive_90 : decode cXRe_receive 90 = .ok (.ifCond .ne 5, 3) := by decide +kernel
theorem dXRe_receive_93 : decode cXRe_receive 93 = .ok (.iconst 3, 1) := by decide +kernel
theorem dXRe_receive_94 : decode cXRe_receive 94 = .ok (.ireturn, 1) := by decide +kernel
theorem dXRe_receive_95 : decode cXRe_receive 95 = .ok (.aload_n 0, 1) := by decide +kernel
theorem dXRe_receive_96 : decode cXRe_receive 96 = .ok (.getfield 28, 3) := by decide +kernel
theorem dXRe_receive_99 : decode cXRe_receive 99 = .ok (.aload_n 2, 1) := by decide +kernel
theorem dXRe_receive_100 : decode cXRe_receive 100 = .ok (.invokevirtual 103, 3) := by decide +kernel
theorem dXRe_receive_103 : decode cXRe_receive 103 = .ok (.aload_n 0, 1) := by decide +kernel
theorem dXRe_receive_104 : decode cXRe_receive 104 = .ok (.aload_n 2, 1) := by decide +kernel
theorem dXRe_receive_105 : decode cXRe_receive 105 = .ok (.invokevirtual 107, 3) := by decide +kernel
theorem dXRe_receive_108 : decode cXRe_receive 108 = .ok (.iconst 1, 1) := by decide +kernel
theorem dXRe_receive_109 : decode cXRe_receive 109 = .ok (.ireturn, 1) := by decide +kernel
