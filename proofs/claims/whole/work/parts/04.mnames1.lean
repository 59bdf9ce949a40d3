abbrev cXM_isReplica : ByteArray := prog_10_method_2_code
def yXM_isReplica : MethodName := ⟨RXM, "isReplica", "(I)Z"⟩
set_option maxRecDepth 100000 in
theorem qXM_isReplica : Cond.code yXM_isReplica cXM_isReplica 1 (some .boolean) ∈ lg_tbl := fx_c 692 rfl
theorem hdXM_isReplica : yXM_isReplica.cls = RXM ∧ yXM_isReplica.cls ≠ "java/lang/invoke/MethodHandle" ∧ yXM_isReplica.cls ≠ "java/lang/invoke/VarHandle" ∧ (parseMethodDescriptor yXM_isReplica.desc).map (fun d => d.parameters.length) = some 1 := by decide +kernel
theorem dXM_isReplica_0 : decode cXM_isReplica 0 = .ok (.iload_n 0, 1) := by decide +kernel
theorem dXM_isReplica_1 : decode cXM_isReplica 1 = .ok (.ifCond .lt 12, 3) := by decide +kernel
theorem dXM_isReplica_4 : decode cXM_isReplica 4 = .ok (.iload_n 0, 1) := by decide +kernel
theorem dXM_isReplica_5 : decode cXM_isReplica 5 = .ok (.iconst 3, 1) := by decide +kernel
theorem dXM_isReplica_6 : decode cXM_isReplica 6 = .ok (.if_icmp .gt 7, 3) := by decide +kernel
theorem dXM_isReplica_9 : decode cXM_isReplica 9 = .ok (.iconst 1, 1) := by decide +kernel
theorem dXM_isReplica_10 : decode cXM_isReplica 10 = .ok (.goto 4, 3) := by decide +kernel
theorem dXM_isReplica_13 : decode cXM_isReplica 13 = .ok (.iconst 0, 1) := by decide +kernel
theorem dXM_isReplica_14 : decode cXM_isReplica 14 = .ok (.ireturn, 1) := by decide +kernel
abbrev cXM_taken : ByteArray := prog_10_method_3_code
def yXM_taken : MethodName := ⟨RXM, "taken", "(JJ)J"⟩
set_option maxRecDepth 100000 in
theorem qXM_taken : Cond.code yXM_taken cXM_taken 6 (some .long) ∈ lg_tbl := fx_c 719 rfl
theorem hdXM_taken : yXM_taken.cls = RXM ∧ yXM_taken.cls ≠ "java/lang/invoke/MethodHandle" ∧ yXM_taken.cls ≠ "java/lang/invoke/VarHandle" ∧ (parseMethodDescriptor yXM_taken.desc).map (fun d => d.parameters.length) = some 2 := by decide +kernel
theorem dXM_taken_0 : decode cXM_taken 0 = .ok (.lload_n 0, 1) := by decide +kernel
theorem dXM_taken_1 : decode cXM_taken 1 = .ok (.lload_n 2, 1) := by decide +kernel
theorem dXM_taken_2 : decode cXM_taken 2 = .ok (.lxor, 1) := by decide +kernel
theorem dXM_taken_3 : decode cXM_taken 3 = .ok (.ldc2_w 68, 3) := by decide +kernel
theorem dXM_taken_6 : decode cXM_taken 6 = .ok (.lmul, 1) := by decide +kernel
theorem dXM_taken_7 : decode cXM_taken 7 = .ok (.lstore 4, 2) := by decide +kernel
theorem dXM_taken_9 : decode cXM_taken 9 = .ok (.lload 4, 2) := by decide +kernel
theorem dXM_taken_11 : decode cXM_taken 11 = .ok (.lload 4, 2) := by decide +kernel
theorem dXM_taken_13 : decode cXM_taken 13 = .ok (.bipush 29, 2) := by decide +kernel
theorem dXM_taken_15 : decode cXM_taken 15 = .ok (.lushr, 1) := by decide +kernel
theorem dXM_taken_16 : decode cXM_taken 16 = .ok (.lxor, 1) := by decide +kernel
theorem dXM_taken_17 : decode cXM_taken 17 = .ok (.lreturn, 1) := by decide +kernel
abbrev cXM_hashOf : ByteArray := prog_10_method_4_code
def yXM_hashOf : MethodName := ⟨RXM, "hashOf", "([I[J)J"⟩
set_option maxRecDepth 100000 in
theorem qXM_hashOf : Cond.code yXM_hashOf cXM_hashOf 5 (some .long) ∈ lg_tbl := fx_c 715 rfl
theorem hdXM_hashOf : yXM_hashOf.cls = RXM ∧ yXM_hashOf.cls ≠ "java/lang/invoke/MethodHandle" ∧ yXM_hashOf.cls ≠ "java/lang/invoke/VarHandle" ∧ (parseMethodDescriptor yXM_hashOf.desc).map (fun d => d.parameters.length) = some 2 := by decide +kernel
theorem dXM_hashOf_0 : decode cXM_hashOf 0 = .ok (.ldc2_w 70, 3) := by decide +kernel
theorem dXM_hashOf_3 : decode cXM_hashOf 3 = .ok (.lstore_n 2, 1) := by decide +kernel
theorem dXM_hashOf_4 : decode cXM_hashOf 4 = .ok (.iconst 0, 1) := by decide +kernel
theorem dXM_hashOf_5 : decode cXM_hashOf 5 = .ok (.istore 4, 2) := by decide +kernel
theorem dXM_hashOf_7 : decode cXM_hashOf 7 = .ok (.iload 4, 2) := by decide +kernel
theorem dXM_hashOf_9 : decode cXM_hashOf 9 = .ok (.iconst 5, 1) := by decide +kernel
theorem dXM_hashOf_10 : decode cXM_hashOf 10 = .ok (.if_icmp .ge 19, 3) := by decide +kernel
theorem dXM_hashOf_13 : decode cXM_hashOf 13 = .ok (.lload_n 2, 1) := by decide +kernel
theorem dXM_hashOf_14 : decode cXM_hashOf 14 = .ok (.aload_n 0, 1) := by decide +kernel
theorem dXM_hashOf_15 : decode cXM_hashOf 15 = .ok (.iload 4, 2) := by decide +kernel
theorem dXM_hashOf_17 : decode cXM_hashOf 17 = .ok (.iaload, 1) := by decide +kernel
theorem dXM_hashOf_18 : decode cXM_hashOf 18 = .ok (.i2l, 1) := by decide +kernel
theorem dXM_hashOf_19 : decode cXM_hashOf 19 = .ok (.invokestatic 72, 3) := by decide +kernel
theorem dXM_hashOf_22 : decode cXM_hashOf 22 = .ok (.lstore_n 2, 1) := by decide +kernel
theorem dXM_hashOf_23 : decode cXM_hashOf 23 = .ok (.iinc 4 1, 3) := by decide +kernel
theorem dXM_hashOf_26 : decode cXM_hashOf 26 = .ok (.goto (-19), 3) := by decide +kernel
theorem dXM_hashOf_29 : decode cXM_hashOf 29 = .ok (.iconst 0, 1) := by decide +kernel
theorem dXM_hashOf_30 : decode cXM_hashOf 30 = .ok (.istore 4, 2) := by decide +kernel
theorem dXM_hashOf_32 : decode cXM_hashOf 32 = .ok (.iload 4, 2) := by decide +kernel
theorem dXM_hashOf_34 : decode cXM_hashOf 34 = .ok (.aload_n 0, 1) := by decide +kernel
theorem dXM_hashOf_35 : decode cXM_hashOf 35 = .ok (.iconst 4, 1) := by decide +kernel
theorem dXM_hashOf_36 : decode cXM_hashOf 36 = .ok (.iaload, 1) := by decide +kernel
theorem dXM_hashOf_37 : decode cXM_hashOf 37 = .ok (.if_icmp .ge 18, 3) := by decide +kernel
theorem dXM_hashOf_40 : decode cXM_hashOf 40 = .ok (.lload_n 2, 1) := by decide +kernel
theorem dXM_hashOf_41 : decode cXM_hashOf 41 = .ok (.aload_n 1, 1) := by decide +kernel
theorem dXM_hashOf_42 : decode cXM_hashOf 42 = .ok (.iload 4, 2) := by decide +kernel
theorem dXM_hashOf_44 : decode cXM_hashOf 44 = .ok (.laload, 1) := by decide +kernel
theorem dXM_hashOf_45 : decode cXM_hashOf 45 = .ok (.invokestatic 72, 3) := by decide +kernel
theorem dXM_hashOf_48 : decode cXM_hashOf 48 = .ok (.lstore_n 2, 1) := by decide +kernel
theorem dXM_hashOf_49 : decode cXM_hashOf 49 = .ok (.iinc 4 1, 3) := by decide +kernel
theorem dXM_hashOf_52 : decode cXM_hashOf 52 = .ok (.goto (-20), 3) := by decide +kernel
theorem dXM_hashOf_55 : decode cXM_hashOf 55 = .ok (.lload_n 2, 1) := by decide +kernel
theorem dXM_hashOf_56 : decode cXM_hashOf 56 = .ok (.lreturn, 1) := by decide +kernel
abbrev cXM_find : ByteArray := prog_10_method_5_code
def yXM_find : MethodName := ⟨RXM, "find", "(J)I"⟩
set_option maxRecDepth 100000 in
theorem qXM_find : Cond.code yXM_find cXM_find 5 (some .int) ∈ lg_tbl := fx_c 732 rfl
theorem hdXM_find : yXM_find.cls = RXM ∧ yXM_find.cls ≠ "java/lang/invoke/MethodHandle" ∧ yXM_find.cls ≠ "java/lang/invoke/VarHandle" ∧ (parseMethodDescriptor yXM_find.desc).map (fun d => d.parameters.length) = some 1 := by decide +kernel
theorem dXM_find_0 : decode cXM_find 0 = .ok (.iconst (-1), 1) := by decide +kernel
theorem dXM_find_1 : decode cXM_find 1 = .ok (.istore_n 3, 1) := by decide +kernel
theorem dXM_find_2 : decode cXM_find 2 = .ok (.iconst 0, 1) := by decide +kernel
theorem dXM_find_3 : decode cXM_find 3 = .ok (.istore 4, 2) := by decide +kernel
theorem dXM_find_5 : decode cXM_find 5 = .ok (.iload 4, 2) := by decide +kernel
theorem dXM_find_7 : decode cXM_find 7 = .ok (.aload_n 0, 1) := by decide +kernel
theorem dXM_find_8 : decode cXM_find 8 = .ok (.getfield 76, 3) := by decide +kernel
theorem dXM_find_11 : decode cXM_find 11 = .ok (.if_icmp .ge 28, 3) := by decide +kernel
theorem dXM_find_14 : decode cXM_find 14 = .ok (.aload_n 0, 1) := by decide +kernel
theorem dXM_find_15 : decode cXM_find 15 = .ok (.getfield 7, 3) := by decide +kernel
theorem dXM_find_18 : decode cXM_find 18 = .ok (.iload 4, 2) := by decide +kernel
theorem dXM_find_20 : decode cXM_find 20 = .ok (.laload, 1) := by decide +kernel
theorem dXM_find_21 : decode cXM_find 21 = .ok (.lload_n 1, 1) := by decide +kernel
theorem dXM_find_22 : decode cXM_find 22 = .ok (.lcmp, 1) := by decide +kernel
theorem dXM_find_23 : decode cXM_find 23 = .ok (.ifCond .ne 8, 3) := by decide +kernel
theorem dXM_find_26 : decode cXM_find 26 = .ok (.iload 4, 2) := by decide +kernel
theorem dXM_find_28 : decode cXM_find 28 = .ok (.goto 4, 3) := by decide +kernel
theorem dXM_find_31 : decode cXM_find 31 = .ok (.iload_n 3, 1) := by decide +kernel
theorem dXM_find_32 : decode cXM_find 32 = .ok (.istore_n 3, 1) := by decide +kernel
theorem dXM_find_33 : decode cXM_find 33 = .ok (.iinc 4 1, 3) := by decide +kernel
theorem dXM_find_36 : decode cXM_find 36 = .ok (.goto (-31), 3) := by decide +kernel
theorem dXM_find_39 : decode cXM_find 39 = .ok (.iload_n 3, 1) := by decide +kernel
theorem dXM_find_40 : decode cXM_find 40 = .ok (.ireturn, 1) := by decide +kernel
abbrev cXM_in : ByteArray := prog_10_method_6_code
def yXM_in : MethodName := ⟨RXM, "in", "(JI)Z"⟩
set_option maxRecDepth 100000 in
theorem qXM_in : Cond.code yXM_in cXM_in 3 (some .boolean) ∈ lg_tbl := fx_c 703 rfl
theorem hdXM_in : yXM_in.cls = RXM ∧ yXM_in.cls ≠ "java/lang/invoke/MethodHandle" ∧ yXM_in.cls ≠ "java/lang/invoke/VarHandle" ∧ (parseMethodDescriptor yXM_in.desc).map (fun d => d.parameters.length) = some 2 := by decide +kernel
theorem dXM_in_0 : decode cXM_in 0 = .ok (.iload_n 2, 1) := by decide +kernel
theorem dXM_in_1 : decode cXM_in 1 = .ok (.ifCond .lt 17, 3) := by decide +kernel
theorem dXM_in_4 : decode cXM_in 4 = .ok (.lload_n 0, 1) := by decide +kernel
theorem dXM_in_5 : decode cXM_in 5 = .ok (.iload_n 2, 1) := by decide +kernel
theorem dXM_in_6 : decode cXM_in 6 = .ok (.lshr, 1) := by decide +kernel
theorem dXM_in_7 : decode cXM_in 7 = .ok (.lconst 1, 1) := by decide +kernel
theorem dXM_in_8 : decode cXM_in 8 = .ok (.land, 1) := by decide +kernel
theorem dXM_in_9 : decode cXM_in 9 = .ok (.lconst 1, 1) := by decide +kernel
theorem dXM_in_10 : decode cXM_in 10 = .ok (.lcmp, 1) := by decide +kernel
theorem dXM_in_11 : decode cXM_in 11 = .ok (.ifCond .ne 7, 3) := by decide +kernel
theorem dXM_in_14 : decode cXM_in 14 = .ok (.iconst 1, 1) := by decide +kernel
theorem dXM_in_15 : decode cXM_in 15 = .ok (.goto 4, 3) := by decide +kernel
theorem dXM_in_18 : decode cXM_in 18 = .ok (.iconst 0, 1) := by decide +kernel
theorem dXM_in_19 : decode cXM_in 19 = .ok (.ireturn, 1) := by decide +kernel
abbrev cXM_become : ByteArray := prog_10_method_7_code
def yXM_become : MethodName := ⟨RXM, "become", "(I)V"⟩
set_option maxRecDepth 100000 in
theorem qXM_become : Cond.code yXM_become cXM_become 3 none ∈ lg_tbl := fx_c 736 rfl
theorem hdXM_become : yXM_become.cls = RXM ∧ yXM_become.cls ≠ "java/lang/invoke/MethodHandle" ∧ yXM_become.cls ≠ "java/lang/invoke/VarHandle" ∧ (parseMethodDescriptor yXM_become.desc).map (fun d => d.parameters.length) = some 1 := by decide +kernel
theorem dXM_become_0 : decode cXM_become 0 = .ok (.aload_n 0, 1) := by decide +kernel
theorem dXM_become_1 : decode cXM_become 1 = .ok (.aload_n 0, 1) := by decide +kernel
theorem dXM_become_2 : decode cXM_become 2 = .ok (.getfield 7, 3) := by decide +kernel
theorem dXM_become_5 : decode cXM_become 5 = .ok (.iload_n 1, 1) := by decide +kernel
theorem dXM_become_6 : decode cXM_become 6 = .ok (.laload, 1) := by decide +kernel
theorem dXM_become_7 : decode cXM_become 7 = .ok (.putfield 80, 3) := by decide +kernel
theorem dXM_become_10 : decode cXM_become 10 = .ok (.aload_n 0, 1) := by decide +kernel
theorem dXM_become_11 : decode cXM_become 11 = .ok (.getfield 59, 3) := by decide +kernel
theorem dXM_become_14 : decode cXM_become 14 = .ok (.iconst 0, 1) := by decide +kernel
theorem dXM_become_15 : decode cXM_become 15 = .ok (.aload_n 0, 1) := by decide +kernel
theorem dXM_become_16 : decode cXM_become 16 = .ok (.getfield 13, 3) := by decide +kernel
theorem dXM_become_19 : decode cXM_become 19 = .ok (.iload_n 1, 1) := by decide +kernel
theorem dXM_become_20 : decode cXM_become 20 = .ok (.iaload, 1) := by decide +kernel
theorem dXM_become_21 : decode cXM_become 21 = .ok (.iastore, 1) := by decide +kernel
theorem dXM_become_22 : decode cXM_become 22 = .ok (.aload_n 0, 1) := by decide +kernel
theorem dXM_become_23 : decode cXM_become 23 = .ok (.getfield 59, 3) := by decide +kernel
theorem dXM_become_26 : decode cXM_become 26 = .ok (.iconst 1, 1) := by decide +kernel
theorem dXM_become_27 : decode cXM_become 27 = .ok (.aload_n 0, 1) := by decide +kernel
theorem dXM_become_28 : decode cXM_become 28 = .ok (.getfield 17, 3) := by decide +kernel
theorem dXM_become_31 : decode cXM_become 31 = .ok (.iload_n 1, 1) := by decide +kernel
theorem dXM_become_32 : decode cXM_become 32 = .ok (.iaload, 1) := by decide +kernel
theorem dXM_become_33 : decode cXM_become 33 = .ok (.iastore, 1) := by decide +kernel
theorem dXM_become_34 : decode cXM_become 34 = .ok (.aload_n 0, 1) := by decide +kernel
theorem dXM_become_35 : decode cXM_become 35 = .ok (.getfield 59, 3) := by decide +kernel
theorem dXM_become_38 : decode cXM_become 38 = .ok (.iconst 2, 1) := by decide +kernel
theorem dXM_become_39 : decode cXM_become 39 = .ok (.aload_n 0, 1) := by decide +kernel
theorem dXM_become_40 : decode cXM_become 40 = .ok (.getfield 20, 3) := by decide +kernel
theorem dXM_become_43 : decode cXM_become 43 = .ok (.iload_n 1, 1) := by decide +kernel
theorem dXM_become_44 : decode cXM_become 44 = .ok (.iaload, 1) := by decide +kernel
theorem dXM_become_45 : decode cXM_become 45 = .ok (.iastore, 1) := by decide +kernel
theorem dXM_become_46 : decode cXM_become 46 = .ok (.aload_n 0, 1) := by decide +kernel
theorem dXM_become_47 : decode cXM_become 47 = .ok (.getfield 59, 3) := by decide +kernel
theorem dXM_become_50 : decode cXM_become 50 = .ok (.iconst 3, 1) := by decide +kernel
theorem dXM_become_51 : decode cXM_become 51 = .ok (.aload_n 0, 1) := by decide +kernel
theorem dXM_become_52 : decode cXM_become 52 = .ok (.getfield 23, 3) := by decide +kernel
theorem dXM_become_55 : decode cXM_become 55 = .ok (.iload_n 1, 1) := by decide +kernel
theorem dXM_become_56 : decode cXM_become 56 = .ok (.iaload, 1) := by decide +kernel
theorem dXM_become_57 : decode cXM_become 57 = .ok (.iastore, 1) := by decide +kernel
theorem dXM_become_58 : decode cXM_become 58 = .ok (.aload_n 0, 1) := by decide +kernel
theorem dXM_become_59 : decode cXM_become 59 = .ok (.getfield 59, 3) := by decide +kernel
theorem dXM_become_62 : decode cXM_become 62 = .ok (.iconst 4, 1) := by decide +kernel
theorem dXM_become_63 : decode cXM_become 63 = .ok (.aload_n 0, 1) := by decide +kernel
theorem dXM_become_64 : decode cXM_become 64 = .ok (.getfield 26, 3) := by decide +kernel
theorem dXM_become_67 : decode cXM_become 67 = .ok (.iload_n 1, 1) := by decide +kernel
theorem dXM_become_68 : decode cXM_become 68 = .ok (.iaload, 1) := by decide +kernel
theorem dXM_become_69 : decode cXM_become 69 = .ok (.iastore, 1) := by decide +kernel
theorem dXM_become_70 : decode cXM_become 70 = .ok (.iconst 0, 1) := by decide +kernel
theorem dXM_become_71 : decode cXM_become 71 = .ok (.istore_n 2, 1) := by decide +kernel
theorem dXM_become_72 : decode cXM_become 72 = .ok (.iload_n 2, 1) := by decide +kernel
theorem dXM_become_73 : decode cXM_become 73 = .ok (.iconst 4, 1) := by decide +kernel
theorem dXM_become_74 : decode cXM_become 74 = .ok (.if_icmp .ge 25, 3) := by decide +kernel
theorem dXM_become_77 : decode cXM_become 77 = .ok (.aload_n 0, 1) := by decide +kernel
theorem dXM_become_78 : decode cXM_become 78 = .ok (.getfield 62, 3) := by decide +kernel
theorem dXM_become_81 : decode cXM_become 81 = .ok (.iload_n 2, 1) := by decide +kernel
theorem dXM_become_82 : decode cXM_become 82 = .ok (.aload_n 0, 1) := by decide +kernel
theorem dXM_become_83 : decode cXM_become 83 = .ok (.getfield 29, 3) := by decide +kernel
theorem dXM_become_86 : decode cXM_become 86 = .ok (.iconst 4, 1) := by decide +kernel
theorem dXM_become_87 : decode cXM_become 87 = .ok (.iload_n 1, 1) := by decide +kernel
theorem dXM_become_88 : decode cXM_become 88 = .ok (.imul, 1) := by decide +kernel
theorem dXM_become_89 : decode cXM_become 89 = .ok (.iload_n 2, 1) := by decide +kernel
theorem dXM_become_90 : decode cXM_become 90 = .ok (.iadd, 1) := by decide +kernel
theorem dXM_become_91 : decode cXM_become 91 = .ok (.laload, 1) := by decide +kernel
theorem dXM_become_92 : decode cXM_become 92 = .ok (.lastore, 1) := by decide +kernel
theorem dXM_become_93 : decode cXM_become 93 = .ok (.iinc 2 1, 3) := by decide +kernel
theorem dXM_become_96 : decode cXM_become 96 = .ok (.goto (-24), 3) := by decide +kernel
theorem dXM_become_99 : decode cXM_become 99 = .ok (.return_, 1) := by decide +kernel
abbrev cXM_inShape : ByteArray := prog_10_method_8_code
def yXM_inShape : MethodName := ⟨RXM, "inShape", "()Z"⟩
set_option maxRecDepth 100000 in
theorem qXM_inShape : Cond.code yXM_inShape cXM_inShape 3 (some .boolean) ∈ lg_tbl := fx_c 740 rfl
theorem hdXM_inShape : yXM_inShape.cls = RXM ∧ yXM_inShape.cls ≠ "java/lang/invoke/MethodHandle" ∧ yXM_inShape.cls ≠ "java/lang/invoke/VarHandle" ∧ (parseMethodDescriptor yXM_inShape.desc).map (fun d => d.parameters.length) = some 0 := by decide +kernel
theorem dXM_inShape_0 : decode cXM_inShape 0 = .ok (.aload_n 0, 1) := by decide +kernel
theorem dXM_inShape_1 : decode cXM_inShape 1 = .ok (.getfield 59, 3) := by decide +kernel
theorem dXM_inShape_4 : decode cXM_inShape 4 = .ok (.iconst 0, 1) := by decide +kernel
theorem dXM_inShape_5 : decode cXM_inShape 5 = .ok (.iaload, 1) := by decide +kernel
theorem dXM_inShape_6 : decode cXM_inShape 6 = .ok (.ifCond .lt 56, 3) := by decide +kernel
theorem dXM_inShape_9 : decode cXM_inShape 9 = .ok (.aload_n 0, 1) := by decide +kernel
theorem dXM_inShape_10 : decode cXM_inShape 10 = .ok (.getfield 59, 3) := by decide +kernel
theorem dXM_inShape_13 : decode cXM_inShape 13 = .ok (.iconst 0, 1) := by decide +kernel
theorem dXM_inShape_14 : decode cXM_inShape 14 = .ok (.iaload, 1) := by decide +kernel
theorem dXM_inShape_15 : decode cXM_inShape 15 = .ok (.iconst 3, 1) := by decide +kernel
theorem dXM_inShape_16 : decode cXM_inShape 16 = .ok (.if_icmp .gt 46, 3) := by decide +kernel
theorem dXM_inShape_19 : decode cXM_inShape 19 = .ok (.aload_n 0, 1) := by decide +kernel
theorem dXM_inShape_20 : decode cXM_inShape 20 = .ok (.getfield 59, 3) := by decide +kernel
theorem dXM_inShape_23 : decode cXM_inShape 23 = .ok (.iconst 1, 1) := by decide +kernel
theorem dXM_inShape_24 : decode cXM_inShape 24 = .ok (.iaload, 1) := by decide +kernel
theorem dXM_inShape_25 : decode cXM_inShape 25 = .ok (.ifCond .lt 37, 3) := by decide +kernel
theorem dXM_inShape_28 : decode cXM_inShape 28 = .ok (.aload_n 0, 1) := by decide +kernel
theorem dXM_inShape_29 : decode cXM_inShape 29 = .ok (.getfield 59, 3) := by decide +kernel
theorem dXM_inShape_32 : decode cXM_inShape 32 = .ok (.iconst 1, 1) := by decide +kernel
theorem dXM_inShape_33 : decode cXM_inShape 33 = .ok (.iaload, 1) := by decide +kernel
theorem dXM_inShape_34 : decode cXM_inShape 34 = .ok (.iconst 3, 1) := by decide +kernel
theorem dXM_inShape_35 : decode cXM_inShape 35 = .ok (.if_icmp .gt 27, 3) := by decide +kernel
theorem dXM_inShape_38 : decode cXM_inShape 38 = .ok (.aload_n 0, 1) := by decide +kernel
theorem dXM_inShape_39 : decode cXM_inShape 39 = .ok (.getfield 59, 3) := by decide +kernel
theorem dXM_inShape_42 : decode cXM_inShape 42 = .ok (.iconst 2, 1) := by decide +kernel
theorem dXM_inShape_43 : decode cXM_inShape 43 = .ok (.iaload, 1) := by decide +kernel
theorem dXM_inShape_44 : decode cXM_inShape 44 = .ok (.ifCond .lt 18, 3) := by decide +kernel
theorem dXM_inShape_47 : decode cXM_inShape 47 = .ok (.aload_n 0, 1) := by decide +kernel
theorem dXM_inShape_48 : decode cXM_inShape 48 = .ok (.getfield 59, 3) := by decide +kernel
theorem dXM_inShape_51 : decode cXM_inShape 51 = .ok (.iconst 2, 1) := by decide +kernel
theorem dXM_inShape_52 : decode cXM_inShape 52 = .ok (.iaload, 1) := by decide +kernel
theorem dXM_inShape_53 : decode cXM_inShape 53 = .ok (.bipush 7, 2) := by decide +kernel
theorem dXM_inShape_55 : decode cXM_inShape 55 = .ok (.if_icmp .gt 7, 3) := by decide +kernel
theorem dXM_inShape_58 : decode cXM_inShape 58 = .ok (.iconst 1, 1) := by decide +kernel
theorem dXM_inShape_59 : decode cXM_inShape 59 = .ok (.goto 4, 3) := by decide +kernel
theorem dXM_inShape_62 : decode cXM_inShape 62 = .ok (.iconst 0, 1) := by decide +kernel
theorem dXM_inShape_63 : decode cXM_inShape 63 = .ok (.istore_n 1, 1) := by decide +kernel
theorem dXM_inShape_64 : decode cXM_inShape 64 = .ok (.iconst 1, 1) := by decide +kernel
theorem dXM_inShape_65 : decode cXM_inShape 65 = .ok (.istore_n 2, 1) := by decide +kernel
theorem dXM_inShape_66 : decode cXM_inShape 66 = .ok (.iload_n 2, 1) := by decide +kernel
theorem dXM_inShape_67 : decode cXM_inShape 67 = .ok (.aload_n 0, 1) := by decide +kernel
theorem dXM_inShape_68 : decode cXM_inShape 68 = .ok (.getfield 59, 3) := by decide +kernel
theorem dXM_inShape_71 : decode cXM_inShape 71 = .ok (.iconst 4, 1) := by decide +kernel
theorem dXM_inShape_72 : decode cXM_inShape 72 = .ok (.iaload, 1) := by decide +kernel
theorem dXM_inShape_73 : decode cXM_inShape 73 = .ok (.if_icmp .ge 37, 3) := by decide +kernel
theorem dXM_inShape_76 : decode cXM_inShape 76 = .ok (.iload_n 1, 1) := by decide +kernel
theorem dXM_inShape_77 : decode cXM_inShape 77 = .ok (.ifCond .eq 25, 3) := by decide +kernel
theorem dXM_inShape_80 : decode cXM_inShape 80 = .ok (.aload_n 0, 1) := by decide +kernel
theorem dXM_inShape_81 : decode cXM_inShape 81 = .ok (.getfield 62, 3) := by decide +kernel
theorem dXM_inShape_84 : decode cXM_inShape 84 = .ok (.iload_n 2, 1) := by decide +kernel
theorem dXM_inShape_85 : decode cXM_inShape 85 = .ok (.iconst 1, 1) := by decide +kernel
theorem dXM_inShape_86 : decode cXM_inShape 86 = .ok (.isub, 1) := by decide +kernel
theorem dXM_inShape_87 : decode cXM_inShape 87 = .ok (.laload, 1) := by decide +kernel
theorem dXM_inShape_88 : decode cXM_inShape 88 = .ok (.aload_n 0, 1) := by decide +kernel
theorem dXM_inShape_89 : decode cXM_inShape 89 = .ok (.getfield 62, 3) := by decide +kernel
theorem dXM_inShape_92 : decode cXM_inShape 92 = .ok (.iload_n 2, 1) := by decide +kernel
theorem dXM_inShape_93 : decode cXM_inShape 93 = .ok (.laload, 1) := by decide +kernel
theorem dXM_inShape_94 : decode cXM_inShape 94 = .ok (.lcmp, 1) := by decide +kernel
theorem dXM_inShape_95 : decode cXM_inShape 95 = .ok (.ifCond .ge 7, 3) := by decide +kernel
theorem dXM_inShape_98 : decode cXM_inShape 98 = .ok (.iconst 1, 1) := by decide +kernel
theorem dXM_inShape_99 : decode cXM_inShape 99 = .ok (.goto 4, 3) := by decide +kernel
theorem dXM_inShape_102 : decode cXM_inShape 102 = .ok (.iconst 0, 1) := by decide +kernel
theorem dXM_inShape_103 : decode cXM_inShape 103 = .ok (.istore_n 1, 1) := by decide +kernel
theorem dXM_inShape_104 : decode cXM_inShape 104 = .ok (.iinc 2 1, 3) := by decide +kernel
theorem dXM_inShape_107 : decode cXM_inShape 107 = .ok (.goto (-41), 3) := by decide +kernel
theorem dXM_inShape_110 : decode cXM_inShape 110 = .ok (.iload_n 1, 1) := by decide +kernel
theorem dXM_inShape_111 : decode cXM_inShape 111 = .ok (.ireturn, 1) := by decide +kernel
abbrev cXM_linksHeld : ByteArray := prog_10_method_9_code
def yXM_linksHeld : MethodName := ⟨RXM, "linksHeld", "(I)Z"⟩
set_option maxRecDepth 100000 in
theorem qXM_linksHeld : Cond.code yXM_linksHeld cXM_linksHeld 4 (some .boolean) ∈ lg_tbl := fx_c 744 rfl
theorem hdXM_linksHeld : yXM_linksHeld.cls = RXM ∧ yXM_linksHeld.cls ≠ "java/lang/invoke/MethodHandle" ∧ yXM_linksHeld.cls ≠ "java/lang/invoke/VarHandle" ∧ (parseMethodDescriptor yXM_linksHeld.desc).map (fun d => d.parameters.length) = some 1 := by decide +kernel
theorem dXM_linksHeld_0 : decode cXM_linksHeld 0 = .ok (.iconst 1, 1) := by decide +kernel
theorem dXM_linksHeld_1 : decode cXM_linksHeld 1 = .ok (.istore_n 2, 1) := by decide +kernel
theorem dXM_linksHeld_2 : decode cXM_linksHeld 2 = .ok (.iconst 0, 1) := by decide +kernel
theorem dXM_linksHeld_3 : decode cXM_linksHeld 3 = .ok (.istore_n 3, 1) := by decide +kernel
theorem dXM_linksHeld_4 : decode cXM_linksHeld 4 = .ok (.iload_n 3, 1) := by decide +kernel
theorem dXM_linksHeld_5 : decode cXM_linksHeld 5 = .ok (.aload_n 0, 1) := by decide +kernel
theorem dXM_linksHeld_6 : decode cXM_linksHeld 6 = .ok (.getfield 59, 3) := by decide +kernel
theorem dXM_linksHeld_9 : decode cXM_linksHeld 9 = .ok (.iconst 4, 1) := by decide +kernel
theorem dXM_linksHeld_10 : decode cXM_linksHeld 10 = .ok (.iaload, 1) := by decide +kernel
theorem dXM_linksHeld_11 : decode cXM_linksHeld 11 = .ok (.if_icmp .ge 41, 3) := by decide +kernel
theorem dXM_linksHeld_14 : decode cXM_linksHeld 14 = .ok (.iload_n 2, 1) := by decide +kernel
theorem dXM_linksHeld_15 : decode cXM_linksHeld 15 = .ok (.ifCond .eq 29, 3) := by decide +kernel
theorem dXM_linksHeld_18 : decode cXM_linksHeld 18 = .ok (.aload_n 0, 1) := by decide +kernel
theorem dXM_linksHeld_19 : decode cXM_linksHeld 19 = .ok (.getfield 38, 3) := by decide +kernel
theorem dXM_linksHeld_22 : decode cXM_linksHeld 22 = .ok (.iload_n 1, 1) := by decide +kernel
theorem dXM_linksHeld_23 : decode cXM_linksHeld 23 = .ok (.laload, 1) := by decide +kernel
theorem dXM_linksHeld_24 : decode cXM_linksHeld 24 = .ok (.aload_n 0, 1) := by decide +kernel
theorem dXM_linksHeld_25 : decode cXM_linksHeld 25 = .ok (.aload_n 0, 1) := by decide +kernel
theorem dXM_linksHeld_26 : decode cXM_linksHeld 26 = .ok (.getfield 62, 3) := by decide +kernel
theorem dXM_linksHeld_29 : decode cXM_linksHeld 29 = .ok (.iload_n 3, 1) := by decide +kernel
theorem dXM_linksHeld_30 : decode cXM_linksHeld 30 = .ok (.laload, 1) := by decide +kernel
theorem dXM_linksHeld_31 : decode cXM_linksHeld 31 = .ok (.invokevirtual 84, 3) := by decide +kernel
theorem dXM_linksHeld_34 : decode cXM_linksHeld 34 = .ok (.invokestatic 88, 3) := by decide +kernel
theorem dXM_linksHeld_37 : decode cXM_linksHeld 37 = .ok (.ifCond .eq 7, 3) := by decide +kernel
theorem dXM_linksHeld_40 : decode cXM_linksHeld 40 = .ok (.iconst 1, 1) := by decide +kernel
theorem dXM_linksHeld_41 : decode cXM_linksHeld 41 = .ok (.goto 4, 3) := by decide +kernel
theorem dXM_linksHeld_44 : decode cXM_linksHeld 44 = .ok (.iconst 0, 1) := by decide +kernel
theorem dXM_linksHeld_45 : decode cXM_linksHeld 45 = .ok (.istore_n 2, 1) := by decide +kernel
theorem dXM_linksHeld_46 : decode cXM_linksHeld 46 = .ok (.iinc 3 1, 3) := by decide +kernel
theorem dXM_linksHeld_49 : decode cXM_linksHeld 49 = .ok (.goto (-45), 3) := by decide +kernel
theorem dXM_linksHeld_52 : decode cXM_linksHeld 52 = .ok (.iload_n 2, 1) := by decide +kernel
theorem dXM_linksHeld_53 : decode cXM_linksHeld 53 = .ok (.ireturn, 1) := by decide +kernel
abbrev cXM_pastOf : ByteArray := prog_10_method_10_code
def yXM_pastOf : MethodName := ⟨RXM, "pastOf", "()J"⟩
set_option maxRecDepth 100000 in
theorem qXM_pastOf : Cond.code yXM_pastOf cXM_pastOf 5 (some .long) ∈ lg_tbl := fx_c 760 rfl
theorem hdXM_pastOf : yXM_pastOf.cls = RXM ∧ yXM_pastOf.cls ≠ "java/lang/invoke/MethodHandle" ∧ yXM_pastOf.cls ≠ "java/lang/invoke/VarHandle" ∧ (parseMethodDescriptor yXM_pastOf.desc).map (fun d => d.parameters.length) = some 0 := by decide +kernel
theorem dXM_pastOf_0 : decode cXM_pastOf 0 = .ok (.lconst 0, 1) := by decide +kernel
theorem dXM_pastOf_1 : decode cXM_pastOf 1 = .ok (.lstore_n 1, 1) := by decide +kernel
theorem dXM_pastOf_2 : decode cXM_pastOf 2 = .ok (.iconst 0, 1) := by decide +kernel
theorem dXM_pastOf_3 : decode cXM_pastOf 3 = .ok (.istore_n 3, 1) := by decide +kernel
theorem dXM_pastOf_4 : decode cXM_pastOf 4 = .ok (.iload_n 3, 1) := by decide +kernel
theorem dXM_pastOf_5 : decode cXM_pastOf 5 = .ok (.aload_n 0, 1) := by decide +kernel
theorem dXM_pastOf_6 : decode cXM_pastOf 6 = .ok (.getfield 59, 3) := by decide +kernel
theorem dXM_pastOf_9 : decode cXM_pastOf 9 = .ok (.iconst 4, 1) := by decide +kernel
theorem dXM_pastOf_10 : decode cXM_pastOf 10 = .ok (.iaload, 1) := by decide +kernel
theorem dXM_pastOf_11 : decode cXM_pastOf 11 = .ok (.if_icmp .ge 36, 3) := by decide +kernel
theorem dXM_pastOf_14 : decode cXM_pastOf 14 = .ok (.aload_n 0, 1) := by decide +kernel
theorem dXM_pastOf_15 : decode cXM_pastOf 15 = .ok (.aload_n 0, 1) := by decide +kernel
theorem dXM_pastOf_16 : decode cXM_pastOf 16 = .ok (.getfield 62, 3) := by decide +kernel
theorem dXM_pastOf_19 : decode cXM_pastOf 19 = .ok (.iload_n 3, 1) := by decide +kernel
theorem dXM_pastOf_20 : decode cXM_pastOf 20 = .ok (.laload, 1) := by decide +kernel
theorem dXM_pastOf_21 : decode cXM_pastOf 21 = .ok (.invokevirtual 84, 3) := by decide +kernel
theorem dXM_pastOf_24 : decode cXM_pastOf 24 = .ok (.istore 4, 2) := by decide +kernel
theorem dXM_pastOf_26 : decode cXM_pastOf 26 = .ok (.lload_n 1, 1) := by decide +kernel
theorem dXM_pastOf_27 : decode cXM_pastOf 27 = .ok (.aload_n 0, 1) := by decide +kernel
theorem dXM_pastOf_28 : decode cXM_pastOf 28 = .ok (.getfield 32, 3) := by decide +kernel
theorem dXM_pastOf_31 : decode cXM_pastOf 31 = .ok (.iload 4, 2) := by decide +kernel
theorem dXM_pastOf_33 : decode cXM_pastOf 33 = .ok (.laload, 1) := by decide +kernel
theorem dXM_pastOf_34 : decode cXM_pastOf 34 = .ok (.lor, 1) := by decide +kernel
theorem dXM_pastOf_35 : decode cXM_pastOf 35 = .ok (.lconst 1, 1) := by decide +kernel
theorem dXM_pastOf_36 : decode cXM_pastOf 36 = .ok (.iload 4, 2) := by decide +kernel
theorem dXM_pastOf_38 : decode cXM_pastOf 38 = .ok (.lshl, 1) := by decide +kernel
theorem dXM_pastOf_39 : decode cXM_pastOf 39 = .ok (.lor, 1) := by decide +kernel
theorem dXM_pastOf_40 : decode cXM_pastOf 40 = .ok (.lstore_n 1, 1) := by decide +kernel
theorem dXM_pastOf_41 : decode cXM_pastOf 41 = .ok (.iinc 3 1, 3) := by decide +kernel
theorem dXM_pastOf_44 : decode cXM_pastOf 44 = .ok (.goto (-40), 3) := by decide +kernel
theorem dXM_pastOf_47 : decode cXM_pastOf 47 = .ok (.lload_n 1, 1) := by decide +kernel
theorem dXM_pastOf_48 : decode cXM_pastOf 48 = .ok (.lreturn, 1) := by decide +kernel
abbrev cXM_isRight : ByteArray := prog_10_method_11_code
def yXM_isRight : MethodName := ⟨RXM, "isRight", "()Z"⟩
set_option maxRecDepth 100000 in
theorem qXM_isRight : Cond.code yXM_isRight cXM_isRight 8 (some .boolean) ∈ lg_tbl := fx_c 756 rfl
theorem hdXM_isRight : yXM_isRight.cls = RXM ∧ yXM_isRight.cls ≠ "java/lang/invoke/MethodHandle" ∧ yXM_isRight.cls ≠ "java/lang/invoke/VarHandle" ∧ (parseMethodDescriptor yXM_isRight.desc).map (fun d => d.parameters.length) = some 0 := by decide +kernel
theorem dXM_isRight_0 : decode cXM_isRight 0 = .ok (.aload_n 0, 1) := by decide +kernel
theorem dXM_isRight_1 : decode cXM_isRight 1 = .ok (.invokevirtual 92, 3) := by decide +kernel
theorem dXM_isRight_4 : decode cXM_isRight 4 = .ok (.lstore_n 1, 1) := by decide +kernel
theorem dXM_isRight_5 : decode cXM_isRight 5 = .ok (.iconst 1, 1) := by decide +kernel
theorem dXM_isRight_6 : decode cXM_isRight 6 = .ok (.istore_n 3, 1) := by decide +kernel
theorem dXM_isRight_7 : decode cXM_isRight 7 = .ok (.iconst 0, 1) := by decide +kernel
theorem dXM_isRight_8 : decode cXM_isRight 8 = .ok (.istore 4, 2) := by decide +kernel
theorem dXM_isRight_10 : decode cXM_isRight 10 = .ok (.iload 4, 2) := by decide +kernel
theorem dXM_isRight_12 : decode cXM_isRight 12 = .ok (.aload_n 0, 1) := by decide +kernel
theorem dXM_isRight_13 : decode cXM_isRight 13 = .ok (.getfield 59, 3) := by decide +kernel
theorem dXM_isRight_16 : decode cXM_isRight 16 = .ok (.iconst 4, 1) := by decide +kernel
theorem dXM_isRight_17 : decode cXM_isRight 17 = .ok (.iaload, 1) := by decide +kernel
theorem dXM_isRight_18 : decode cXM_isRight 18 = .ok (.if_icmp .ge 76, 3) := by decide +kernel
theorem dXM_isRight_21 : decode cXM_isRight 21 = .ok (.aload_n 0, 1) := by decide +kernel
theorem dXM_isRight_22 : decode cXM_isRight 22 = .ok (.aload_n 0, 1) := by decide +kernel
theorem dXM_isRight_23 : decode cXM_isRight 23 = .ok (.getfield 62, 3) := by decide +kernel
theorem dXM_isRight_26 : decode cXM_isRight 26 = .ok (.iload 4, 2) := by decide +kernel
theorem dXM_isRight_28 : decode cXM_isRight 28 = .ok (.laload, 1) := by decide +kernel
theorem dXM_isRight_29 : decode cXM_isRight 29 = .ok (.invokevirtual 84, 3) := by decide +kernel
theorem dXM_isRight_32 : decode cXM_isRight 32 = .ok (.istore 5, 2) := by decide +kernel
theorem dXM_isRight_34 : decode cXM_isRight 34 = .ok (.iconst 0, 1) := by decide +kernel
theorem dXM_isRight_35 : decode cXM_isRight 35 = .ok (.istore 6, 2) := by decide +kernel
theorem dXM_isRight_37 : decode cXM_isRight 37 = .ok (.iload 6, 2) := by decide +kernel
theorem dXM_isRight_39 : decode cXM_isRight 39 = .ok (.aload_n 0, 1) := by decide +kernel
theorem dXM_isRight_40 : decode cXM_isRight 40 = .ok (.getfield 59, 3) := by decide +kernel
theorem dXM_isRight_43 : decode cXM_isRight 43 = .ok (.iconst 4, 1) := by decide +kernel
theorem dXM_isRight_44 : decode cXM_isRight 44 = .ok (.iaload, 1) := by decide +kernel
theorem dXM_isRight_45 : decode cXM_isRight 45 = .ok (.if_icmp .ge 43, 3) := by decide +kernel
theorem dXM_isRight_48 : decode cXM_isRight 48 = .ok (.iload_n 3, 1) := by decide +kernel
theorem dXM_isRight_49 : decode cXM_isRight 49 = .ok (.ifCond .eq 31, 3) := by decide +kernel
theorem dXM_isRight_52 : decode cXM_isRight 52 = .ok (.aload_n 0, 1) := by decide +kernel
theorem dXM_isRight_53 : decode cXM_isRight 53 = .ok (.getfield 32, 3) := by decide +kernel
theorem dXM_isRight_56 : decode cXM_isRight 56 = .ok (.aload_n 0, 1) := by decide +kernel
theorem dXM_isRight_57 : decode cXM_isRight 57 = .ok (.aload_n 0, 1) := by decide +kernel
theorem dXM_isRight_58 : decode cXM_isRight 58 = .ok (.getfield 62, 3) := by decide +kernel
theorem dXM_isRight_61 : decode cXM_isRight 61 = .ok (.iload 6, 2) := by decide +kernel
theorem dXM_isRight_63 : decode cXM_isRight 63 = .ok (.laload, 1) := by decide +kernel
theorem dXM_isRight_64 : decode cXM_isRight 64 = .ok (.invokevirtual 84, 3) := by decide +kernel
theorem dXM_isRight_67 : decode cXM_isRight 67 = .ok (.laload, 1) := by decide +kernel
theorem dXM_isRight_68 : decode cXM_isRight 68 = .ok (.iload 5, 2) := by decide +kernel
theorem dXM_isRight_70 : decode cXM_isRight 70 = .ok (.invokestatic 88, 3) := by decide +kernel
theorem dXM_isRight_73 : decode cXM_isRight 73 = .ok (.ifCond .ne 7, 3) := by decide +kernel
theorem dXM_isRight_76 : decode cXM_isRight 76 = .ok (.iconst 1, 1) := by decide +kernel
theorem dXM_isRight_77 : decode cXM_isRight 77 = .ok (.goto 4, 3) := by decide +kernel
theorem dXM_isRight_80 : decode cXM_isRight 80 = .ok (.iconst 0, 1) := by decide +kernel
theorem dXM_isRight_81 : decode cXM_isRight 81 = .ok (.istore_n 3, 1) := by decide +kernel
theorem dXM_isRight_82 : decode cXM_isRight 82 = .ok (.iinc 6 1, 3) := by decide +kernel
theorem dXM_isRight_85 : decode cXM_isRight 85 = .ok (.goto (-48), 3) := by decide +kernel
theorem dXM_isRight_88 : decode cXM_isRight 88 = .ok (.iinc 4 1, 3) := by decide +kernel
theorem dXM_isRight_91 : decode cXM_isRight 91 = .ok (.goto (-81), 3) := by decide +kernel
theorem dXM_isRight_94 : decode cXM_isRight 94 = .ok (.iconst 0, 1) := by decide +kernel
theorem dXM_isRight_95 : decode cXM_isRight 95 = .ok (.istore 4, 2) := by decide +kernel
theorem dXM_isRight_97 : decode cXM_isRight 97 = .ok (.iload 4, 2) := by decide +kernel
theorem dXM_isRight_99 : decode cXM_isRight 99 = .ok (.aload_n 0, 1) := by decide +kernel
theorem dXM_isRight_100 : decode cXM_isRight 100 = .ok (.getfield 76, 3) := by decide +kernel
theorem dXM_isRight_103 : decode cXM_isRight 103 = .ok (.if_icmp .ge 194, 3) := by decide +kernel
theorem dXM_isRight_106 : decode cXM_isRight 106 = .ok (.lload_n 1, 1) := by decide +kernel
theorem dXM_isRight_107 : decode cXM_isRight 107 = .ok (.iload 4, 2) := by decide +kernel
theorem dXM_isRight_109 : decode cXM_isRight 109 = .ok (.invokestatic 88, 3) := by decide +kernel
theorem dXM_isRight_112 : decode cXM_isRight 112 = .ok (.ifCond .eq 50, 3) := by decide +kernel
theorem dXM_isRight_115 : decode cXM_isRight 115 = .ok (.aload_n 0, 1) := by decide +kernel
theorem dXM_isRight_116 : decode cXM_isRight 116 = .ok (.getfield 17, 3) := by decide +kernel
theorem dXM_isRight_119 : decode cXM_isRight 119 = .ok (.iload 4, 2) := by decide +kernel
theorem dXM_isRight_121 : decode cXM_isRight 121 = .ok (.iaload, 1) := by decide +kernel
theorem dXM_isRight_122 : decode cXM_isRight 122 = .ok (.iconst 2, 1) := by decide +kernel
theorem dXM_isRight_123 : decode cXM_isRight 123 = .ok (.if_icmp .ne 39, 3) := by decide +kernel
theorem dXM_isRight_126 : decode cXM_isRight 126 = .ok (.aload_n 0, 1) := by decide +kernel
theorem dXM_isRight_127 : decode cXM_isRight 127 = .ok (.getfield 20, 3) := by decide +kernel
theorem dXM_isRight_130 : decode cXM_isRight 130 = .ok (.iload 4, 2) := by decide +kernel
theorem dXM_isRight_132 : decode cXM_isRight 132 = .ok (.iaload, 1) := by decide +kernel
theorem dXM_isRight_133 : decode cXM_isRight 133 = .ok (.aload_n 0, 1) := by decide +kernel
theorem dXM_isRight_134 : decode cXM_isRight 134 = .ok (.getfield 59, 3) := by decide +kernel
theorem dXM_isRight_137 : decode cXM_isRight 137 = .ok (.iconst 2, 1) := by decide +kernel
theorem dXM_isRight_138 : decode cXM_isRight 138 = .ok (.iaload, 1) := by decide +kernel
theorem dXM_isRight_139 : decode cXM_isRight 139 = .ok (.if_icmp .ne 23, 3) := by decide +kernel
theorem dXM_isRight_142 : decode cXM_isRight 142 = .ok (.aload_n 0, 1) := by decide +kernel
theorem dXM_isRight_143 : decode cXM_isRight 143 = .ok (.getfield 13, 3) := by decide +kernel
theorem dXM_isRight_146 : decode cXM_isRight 146 = .ok (.iload 4, 2) := by decide +kernel
theorem dXM_isRight_148 : decode cXM_isRight 148 = .ok (.iaload, 1) := by decide +kernel
theorem dXM_isRight_149 : decode cXM_isRight 149 = .ok (.aload_n 0, 1) := by decide +kernel
theorem dXM_isRight_150 : decode cXM_isRight 150 = .ok (.getfield 59, 3) := by decide +kernel
theorem dXM_isRight_153 : decode cXM_isRight 153 = .ok (.iconst 0, 1) := by decide +kernel
theorem dXM_isRight_154 : decode cXM_isRight 154 = .ok (.iaload, 1) := by decide +kernel
theorem dXM_isRight_155 : decode cXM_isRight 155 = .ok (.if_icmp .eq 7, 3) := by decide +kernel
theorem dXM_isRight_158 : decode cXM_isRight 158 = .ok (.iconst 1, 1) := by decide +kernel
theorem dXM_isRight_159 : decode cXM_isRight 159 = .ok (.goto 4, 3) := by decide +kernel
theorem dXM_isRight_162 : decode cXM_isRight 162 = .ok (.iconst 0, 1) := by decide +kernel
theorem dXM_isRight_163 : decode cXM_isRight 163 = .ok (.istore 5, 2) := by decide +kernel
theorem dXM_isRight_165 : decode cXM_isRight 165 = .ok (.iconst 0, 1) := by decide +kernel
theorem dXM_isRight_166 : decode cXM_isRight 166 = .ok (.istore 6, 2) := by decide +kernel
theorem dXM_isRight_168 : decode cXM_isRight 168 = .ok (.iconst 0, 1) := by decide +kernel
theorem dXM_isRight_169 : decode cXM_isRight 169 = .ok (.istore 7, 2) := by decide +kernel
theorem dXM_isRight_171 : decode cXM_isRight 171 = .ok (.iload 7, 2) := by decide +kernel
theorem dXM_isRight_173 : decode cXM_isRight 173 = .ok (.aload_n 0, 1) := by decide +kernel
theorem dXM_isRight_174 : decode cXM_isRight 174 = .ok (.getfield 76, 3) := by decide +kernel
theorem dXM_isRight_177 : decode cXM_isRight 177 = .ok (.if_icmp .ge 94, 3) := by decide +kernel
theorem dXM_isRight_180 : decode cXM_isRight 180 = .ok (.iload 5, 2) := by decide +kernel
theorem dXM_isRight_182 : decode cXM_isRight 182 = .ok (.ifCond .eq 89, 3) := by decide +kernel
theorem dXM_isRight_185 : decode cXM_isRight 185 = .ok (.iload 6, 2) := by decide +kernel
theorem dXM_isRight_187 : decode cXM_isRight 187 = .ok (.ifCond .ne 71, 3) := by decide +kernel
theorem dXM_isRight_190 : decode cXM_isRight 190 = .ok (.lload_n 1, 1) := by decide +kernel
theorem dXM_isRight_191 : decode cXM_isRight 191 = .ok (.iload 7, 2) := by decide +kernel
theorem dXM_isRight_193 : decode cXM_isRight 193 = .ok (.invokestatic 88, 3) := by decide +kernel
theorem dXM_isRight_196 : decode cXM_isRight 196 = .ok (.ifCond .eq 66, 3) := by decide +kernel
theorem dXM_isRight_199 : decode cXM_isRight 199 = .ok (.aload_n 0, 1) := by decide +kernel
theorem dXM_isRight_200 : decode cXM_isRight 200 = .ok (.getfield 17, 3) := by decide +kernel
theorem dXM_isRight_203 : decode cXM_isRight 203 = .ok (.iload 7, 2) := by decide +kernel
theorem dXM_isRight_205 : decode cXM_isRight 205 = .ok (.iaload, 1) := by decide +kernel
theorem dXM_isRight_206 : decode cXM_isRight 206 = .ok (.iconst 3, 1) := by decide +kernel
theorem dXM_isRight_207 : decode cXM_isRight 207 = .ok (.if_icmp .ne 55, 3) := by decide +kernel
theorem dXM_isRight_210 : decode cXM_isRight 210 = .ok (.aload_n 0, 1) := by decide +kernel
theorem dXM_isRight_211 : decode cXM_isRight 211 = .ok (.getfield 20, 3) := by decide +kernel
theorem dXM_isRight_214 : decode cXM_isRight 214 = .ok (.iload 7, 2) := by decide +kernel
theorem dXM_isRight_216 : decode cXM_isRight 216 = .ok (.iaload, 1) := by decide +kernel
theorem dXM_isRight_217 : decode cXM_isRight 217 = .ok (.aload_n 0, 1) := by decide +kernel
theorem dXM_isRight_218 : decode cXM_isRight 218 = .ok (.getfield 59, 3) := by decide +kernel
theorem dXM_isRight_221 : decode cXM_isRight 221 = .ok (.iconst 2, 1) := by decide +kernel
theorem dXM_isRight_222 : decode cXM_isRight 222 = .ok (.iaload, 1) := by decide +kernel
theorem dXM_isRight_223 : decode cXM_isRight 223 = .ok (.if_icmp .ne 39, 3) := by decide +kernel
theorem dXM_isRight_226 : decode cXM_isRight 226 = .ok (.aload_n 0, 1) := by decide +kernel
theorem dXM_isRight_227 : decode cXM_isRight 227 = .ok (.getfield 13, 3) := by decide +kernel
theorem dXM_isRight_230 : decode cXM_isRight 230 = .ok (.iload 7, 2) := by decide +kernel
theorem dXM_isRight_232 : decode cXM_isRight 232 = .ok (.iaload, 1) := by decide +kernel
theorem dXM_isRight_233 : decode cXM_isRight 233 = .ok (.aload_n 0, 1) := by decide +kernel
theorem dXM_isRight_234 : decode cXM_isRight 234 = .ok (.getfield 13, 3) := by decide +kernel
theorem dXM_isRight_237 : decode cXM_isRight 237 = .ok (.iload 4, 2) := by decide +kernel
theorem dXM_isRight_239 : decode cXM_isRight 239 = .ok (.iaload, 1) := by decide +kernel
theorem dXM_isRight_240 : decode cXM_isRight 240 = .ok (.if_icmp .ne 22, 3) := by decide +kernel
theorem dXM_isRight_243 : decode cXM_isRight 243 = .ok (.aload_n 0, 1) := by decide +kernel
theorem dXM_isRight_244 : decode cXM_isRight 244 = .ok (.getfield 32, 3) := by decide +kernel
theorem dXM_isRight_247 : decode cXM_isRight 247 = .ok (.iload 7, 2) := by decide +kernel
theorem dXM_isRight_249 : decode cXM_isRight 249 = .ok (.laload, 1) := by decide +kernel
theorem dXM_isRight_250 : decode cXM_isRight 250 = .ok (.iload 4, 2) := by decide +kernel
theorem dXM_isRight_252 : decode cXM_isRight 252 = .ok (.invokestatic 88, 3) := by decide +kernel
theorem dXM_isRight_255 : decode cXM_isRight 255 = .ok (.ifCond .eq 7, 3) := by decide +kernel
theorem dXM_isRight_258 : decode cXM_isRight 258 = .ok (.iconst 1, 1) := by decide +kernel
theorem dXM_isRight_259 : decode cXM_isRight 259 = .ok (.goto 4, 3) := by decide +kernel
theorem dXM_isRight_262 : decode cXM_isRight 262 = .ok (.iconst 0, 1) := by decide +kernel
theorem dXM_isRight_263 : decode cXM_isRight 263 = .ok (.istore 6, 2) := by decide +kernel
theorem dXM_isRight_265 : decode cXM_isRight 265 = .ok (.iinc 7 1, 3) := by decide +kernel
theorem dXM_isRight_268 : decode cXM_isRight 268 = .ok (.goto (-97), 3) := by decide +kernel
theorem dXM_isRight_271 : decode cXM_isRight 271 = .ok (.iload_n 3, 1) := by decide +kernel
theorem dXM_isRight_272 : decode cXM_isRight 272 = .ok (.ifCond .eq 17, 3) := by decide +kernel
theorem dXM_isRight_275 : decode cXM_isRight 275 = .ok (.iload 5, 2) := by decide +kernel
theorem dXM_isRight_277 : decode cXM_isRight 277 = .ok (.ifCond .eq 8, 3) := by decide +kernel
theorem dXM_isRight_280 : decode cXM_isRight 280 = .ok (.iload 6, 2) := by decide +kernel
theorem dXM_isRight_282 : decode cXM_isRight 282 = .ok (.ifCond .eq 7, 3) := by decide +kernel
theorem dXM_isRight_285 : decode cXM_isRight 285 = .ok (.iconst 1, 1) := by decide +kernel
theorem dXM_isRight_286 : decode cXM_isRight 286 = .ok (.goto 4, 3) := by decide +kernel
theorem dXM_isRight_289 : decode cXM_isRight 289 = .ok (.iconst 0, 1) := by decide +kernel
theorem dXM_isRight_290 : decode cXM_isRight 290 = .ok (.istore_n 3, 1) := by decide +kernel
theorem dXM_isRight_291 : decode cXM_isRight 291 = .ok (.iinc 4 1, 3) := by decide +kernel
theorem dXM_isRight_294 : decode cXM_isRight 294 = .ok (.goto (-197), 3) := by decide +kernel
theorem dXM_isRight_297 : decode cXM_isRight 297 = .ok (.iload_n 3, 1) := by decide +kernel
theorem dXM_isRight_298 : decode cXM_isRight 298 = .ok (.ireturn, 1) := by decide +kernel
