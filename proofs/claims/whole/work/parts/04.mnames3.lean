abbrev cXM_arrive : ByteArray := prog_10_method_16_code
def yXM_arrive : MethodName := ⟨RXM, "arrive", "(I)I"⟩
set_option maxRecDepth 100000 in
theorem qXM_arrive : Cond.code yXM_arrive cXM_arrive 4 (some .int) ∈ lg_tbl := fx_c 728 rfl
theorem hdXM_arrive : yXM_arrive.cls = RXM ∧ yXM_arrive.cls ≠ "java/lang/invoke/MethodHandle" ∧ yXM_arrive.cls ≠ "java/lang/invoke/VarHandle" ∧ (parseMethodDescriptor yXM_arrive.desc).map (fun d => d.parameters.length) = some 1 := by decide +kernel
theorem dXM_arrive_0 : decode cXM_arrive 0 = .ok (.aload_n 0, 1) := by decide +kernel
theorem dXM_arrive_1 : decode cXM_arrive 1 = .ok (.aload_n 0, 1) := by decide +kernel
theorem dXM_arrive_2 : decode cXM_arrive 2 = .ok (.getfield 80, 3) := by decide +kernel
theorem dXM_arrive_5 : decode cXM_arrive 5 = .ok (.invokevirtual 84, 3) := by decide +kernel
theorem dXM_arrive_8 : decode cXM_arrive 8 = .ok (.istore_n 2, 1) := by decide +kernel
theorem dXM_arrive_9 : decode cXM_arrive 9 = .ok (.aload_n 0, 1) := by decide +kernel
theorem dXM_arrive_10 : decode cXM_arrive 10 = .ok (.getfield 38, 3) := by decide +kernel
theorem dXM_arrive_13 : decode cXM_arrive 13 = .ok (.iload_n 1, 1) := by decide +kernel
theorem dXM_arrive_14 : decode cXM_arrive 14 = .ok (.laload, 1) := by decide +kernel
theorem dXM_arrive_15 : decode cXM_arrive 15 = .ok (.iload_n 2, 1) := by decide +kernel
theorem dXM_arrive_16 : decode cXM_arrive 16 = .ok (.invokestatic 88, 3) := by decide +kernel
theorem dXM_arrive_19 : decode cXM_arrive 19 = .ok (.ifCond .eq 5, 3) := by decide +kernel
theorem dXM_arrive_22 : decode cXM_arrive 22 = .ok (.iconst 0, 1) := by decide +kernel
theorem dXM_arrive_23 : decode cXM_arrive 23 = .ok (.ireturn, 1) := by decide +kernel
theorem dXM_arrive_24 : decode cXM_arrive 24 = .ok (.iload_n 2, 1) := by decide +kernel
theorem dXM_arrive_25 : decode cXM_arrive 25 = .ok (.ifCond .lt 8, 3) := by decide +kernel
theorem dXM_arrive_28 : decode cXM_arrive 28 = .ok (.aload_n 0, 1) := by decide +kernel
theorem dXM_arrive_29 : decode cXM_arrive 29 = .ok (.iload_n 2, 1) := by decide +kernel
theorem dXM_arrive_30 : decode cXM_arrive 30 = .ok (.invokevirtual 104, 3) := by decide +kernel
theorem dXM_arrive_33 : decode cXM_arrive 33 = .ok (.aload_n 0, 1) := by decide +kernel
theorem dXM_arrive_34 : decode cXM_arrive 34 = .ok (.invokevirtual 108, 3) := by decide +kernel
theorem dXM_arrive_37 : decode cXM_arrive 37 = .ok (.ifCond .ne 5, 3) := by decide +kernel
theorem dXM_arrive_40 : decode cXM_arrive 40 = .ok (.iconst 3, 1) := by decide +kernel
theorem dXM_arrive_41 : decode cXM_arrive 41 = .ok (.ireturn, 1) := by decide +kernel
theorem dXM_arrive_42 : decode cXM_arrive 42 = .ok (.aload_n 0, 1) := by decide +kernel
theorem dXM_arrive_43 : decode cXM_arrive 43 = .ok (.iload_n 1, 1) := by decide +kernel
theorem dXM_arrive_44 : decode cXM_arrive 44 = .ok (.invokevirtual 112, 3) := by decide +kernel
theorem dXM_arrive_47 : decode cXM_arrive 47 = .ok (.ifCond .ne 10, 3) := by decide +kernel
theorem dXM_arrive_50 : decode cXM_arrive 50 = .ok (.aload_n 0, 1) := by decide +kernel
theorem dXM_arrive_51 : decode cXM_arrive 51 = .ok (.iload_n 1, 1) := by decide +kernel
theorem dXM_arrive_52 : decode cXM_arrive 52 = .ok (.invokevirtual 116, 3) := by decide +kernel
theorem dXM_arrive_55 : decode cXM_arrive 55 = .ok (.iconst 2, 1) := by decide +kernel
theorem dXM_arrive_56 : decode cXM_arrive 56 = .ok (.ireturn, 1) := by decide +kernel
theorem dXM_arrive_57 : decode cXM_arrive 57 = .ok (.aload_n 0, 1) := by decide +kernel
theorem dXM_arrive_58 : decode cXM_arrive 58 = .ok (.invokevirtual 119, 3) := by decide +kernel
theorem dXM_arrive_61 : decode cXM_arrive 61 = .ok (.ifCond .eq 16, 3) := by decide +kernel
theorem dXM_arrive_64 : decode cXM_arrive 64 = .ok (.iload_n 2, 1) := by decide +kernel
theorem dXM_arrive_65 : decode cXM_arrive 65 = .ok (.ifCond .ge 14, 3) := by decide +kernel
theorem dXM_arrive_68 : decode cXM_arrive 68 = .ok (.aload_n 0, 1) := by decide +kernel
theorem dXM_arrive_69 : decode cXM_arrive 69 = .ok (.getfield 76, 3) := by decide +kernel
theorem dXM_arrive_72 : decode cXM_arrive 72 = .ok (.bipush 40, 2) := by decide +kernel
theorem dXM_arrive_74 : decode cXM_arrive 74 = .ok (.if_icmp .ne 5, 3) := by decide +kernel
theorem dXM_arrive_77 : decode cXM_arrive 77 = .ok (.iconst 3, 1) := by decide +kernel
theorem dXM_arrive_78 : decode cXM_arrive 78 = .ok (.ireturn, 1) := by decide +kernel
theorem dXM_arrive_79 : decode cXM_arrive 79 = .ok (.iload_n 2, 1) := by decide +kernel
theorem dXM_arrive_80 : decode cXM_arrive 80 = .ok (.ifCond .ge 10, 3) := by decide +kernel
theorem dXM_arrive_83 : decode cXM_arrive 83 = .ok (.aload_n 0, 1) := by decide +kernel
theorem dXM_arrive_84 : decode cXM_arrive 84 = .ok (.invokevirtual 122, 3) := by decide +kernel
theorem dXM_arrive_87 : decode cXM_arrive 87 = .ok (.goto 4, 3) := by decide +kernel
theorem dXM_arrive_90 : decode cXM_arrive 90 = .ok (.iload_n 2, 1) := by decide +kernel
theorem dXM_arrive_91 : decode cXM_arrive 91 = .ok (.istore_n 3, 1) := by decide +kernel
theorem dXM_arrive_92 : decode cXM_arrive 92 = .ok (.aload_n 0, 1) := by decide +kernel
theorem dXM_arrive_93 : decode cXM_arrive 93 = .ok (.getfield 38, 3) := by decide +kernel
theorem dXM_arrive_96 : decode cXM_arrive 96 = .ok (.iload_n 1, 1) := by decide +kernel
theorem dXM_arrive_97 : decode cXM_arrive 97 = .ok (.aload_n 0, 1) := by decide +kernel
theorem dXM_arrive_98 : decode cXM_arrive 98 = .ok (.getfield 38, 3) := by decide +kernel
theorem dXM_arrive_101 : decode cXM_arrive 101 = .ok (.iload_n 1, 1) := by decide +kernel
theorem dXM_arrive_102 : decode cXM_arrive 102 = .ok (.laload, 1) := by decide +kernel
theorem dXM_arrive_103 : decode cXM_arrive 103 = .ok (.lconst 1, 1) := by decide +kernel
theorem dXM_arrive_104 : decode cXM_arrive 104 = .ok (.iload_n 3, 1) := by decide +kernel
theorem dXM_arrive_105 : decode cXM_arrive 105 = .ok (.lshl, 1) := by decide +kernel
theorem dXM_arrive_106 : decode cXM_arrive 106 = .ok (.lor, 1) := by decide +kernel
theorem dXM_arrive_107 : decode cXM_arrive 107 = .ok (.lastore, 1) := by decide +kernel
theorem dXM_arrive_108 : decode cXM_arrive 108 = .ok (.iconst 1, 1) := by decide +kernel
theorem dXM_arrive_109 : decode cXM_arrive 109 = .ok (.ireturn, 1) := by decide +kernel
abbrev cXM_load : ByteArray := prog_10_method_17_code
def yXM_load : MethodName := ⟨RXM, "load", "(I)V"⟩
set_option maxRecDepth 100000 in
theorem qXM_load : Cond.code yXM_load cXM_load 3 none ∈ lg_tbl := fx_c 772 rfl
theorem hdXM_load : yXM_load.cls = RXM ∧ yXM_load.cls ≠ "java/lang/invoke/MethodHandle" ∧ yXM_load.cls ≠ "java/lang/invoke/VarHandle" ∧ (parseMethodDescriptor yXM_load.desc).map (fun d => d.parameters.length) = some 1 := by decide +kernel
theorem dXM_load_0 : decode cXM_load 0 = .ok (.aload_n 0, 1) := by decide +kernel
theorem dXM_load_1 : decode cXM_load 1 = .ok (.aload_n 0, 1) := by decide +kernel
theorem dXM_load_2 : decode cXM_load 2 = .ok (.getfield 44, 3) := by decide +kernel
theorem dXM_load_5 : decode cXM_load 5 = .ok (.iload_n 1, 1) := by decide +kernel
theorem dXM_load_6 : decode cXM_load 6 = .ok (.laload, 1) := by decide +kernel
theorem dXM_load_7 : decode cXM_load 7 = .ok (.putfield 80, 3) := by decide +kernel
theorem dXM_load_10 : decode cXM_load 10 = .ok (.iconst 0, 1) := by decide +kernel
theorem dXM_load_11 : decode cXM_load 11 = .ok (.istore_n 2, 1) := by decide +kernel
theorem dXM_load_12 : decode cXM_load 12 = .ok (.iload_n 2, 1) := by decide +kernel
theorem dXM_load_13 : decode cXM_load 13 = .ok (.iconst 5, 1) := by decide +kernel
theorem dXM_load_14 : decode cXM_load 14 = .ok (.if_icmp .ge 25, 3) := by decide +kernel
theorem dXM_load_17 : decode cXM_load 17 = .ok (.aload_n 0, 1) := by decide +kernel
theorem dXM_load_18 : decode cXM_load 18 = .ok (.getfield 59, 3) := by decide +kernel
theorem dXM_load_21 : decode cXM_load 21 = .ok (.iload_n 2, 1) := by decide +kernel
theorem dXM_load_22 : decode cXM_load 22 = .ok (.aload_n 0, 1) := by decide +kernel
theorem dXM_load_23 : decode cXM_load 23 = .ok (.getfield 47, 3) := by decide +kernel
theorem dXM_load_26 : decode cXM_load 26 = .ok (.iconst 5, 1) := by decide +kernel
theorem dXM_load_27 : decode cXM_load 27 = .ok (.iload_n 1, 1) := by decide +kernel
theorem dXM_load_28 : decode cXM_load 28 = .ok (.imul, 1) := by decide +kernel
theorem dXM_load_29 : decode cXM_load 29 = .ok (.iload_n 2, 1) := by decide +kernel
theorem dXM_load_30 : decode cXM_load 30 = .ok (.iadd, 1) := by decide +kernel
theorem dXM_load_31 : decode cXM_load 31 = .ok (.iaload, 1) := by decide +kernel
theorem dXM_load_32 : decode cXM_load 32 = .ok (.iastore, 1) := by decide +kernel
theorem dXM_load_33 : decode cXM_load 33 = .ok (.iinc 2 1, 3) := by decide +kernel
theorem dXM_load_36 : decode cXM_load 36 = .ok (.goto (-24), 3) := by decide +kernel
theorem dXM_load_39 : decode cXM_load 39 = .ok (.iconst 0, 1) := by decide +kernel
theorem dXM_load_40 : decode cXM_load 40 = .ok (.istore_n 2, 1) := by decide +kernel
theorem dXM_load_41 : decode cXM_load 41 = .ok (.iload_n 2, 1) := by decide +kernel
theorem dXM_load_42 : decode cXM_load 42 = .ok (.iconst 4, 1) := by decide +kernel
theorem dXM_load_43 : decode cXM_load 43 = .ok (.if_icmp .ge 25, 3) := by decide +kernel
theorem dXM_load_46 : decode cXM_load 46 = .ok (.aload_n 0, 1) := by decide +kernel
theorem dXM_load_47 : decode cXM_load 47 = .ok (.getfield 62, 3) := by decide +kernel
theorem dXM_load_50 : decode cXM_load 50 = .ok (.iload_n 2, 1) := by decide +kernel
theorem dXM_load_51 : decode cXM_load 51 = .ok (.aload_n 0, 1) := by decide +kernel
theorem dXM_load_52 : decode cXM_load 52 = .ok (.getfield 50, 3) := by decide +kernel
theorem dXM_load_55 : decode cXM_load 55 = .ok (.iconst 4, 1) := by decide +kernel
theorem dXM_load_56 : decode cXM_load 56 = .ok (.iload_n 1, 1) := by decide +kernel
theorem dXM_load_57 : decode cXM_load 57 = .ok (.imul, 1) := by decide +kernel
theorem dXM_load_58 : decode cXM_load 58 = .ok (.iload_n 2, 1) := by decide +kernel
theorem dXM_load_59 : decode cXM_load 59 = .ok (.iadd, 1) := by decide +kernel
theorem dXM_load_60 : decode cXM_load 60 = .ok (.laload, 1) := by decide +kernel
theorem dXM_load_61 : decode cXM_load 61 = .ok (.lastore, 1) := by decide +kernel
theorem dXM_load_62 : decode cXM_load 62 = .ok (.iinc 2 1, 3) := by decide +kernel
theorem dXM_load_65 : decode cXM_load 65 = .ok (.goto (-24), 3) := by decide +kernel
theorem dXM_load_68 : decode cXM_load 68 = .ok (.return_, 1) := by decide +kernel
abbrev cXM_come : ByteArray := prog_10_method_18_code
def yXM_come : MethodName := ⟨RXM, "come", "(I)I"⟩
set_option maxRecDepth 100000 in
theorem qXM_come : Cond.code yXM_come cXM_come 4 (some .int) ∈ lg_tbl := fx_c 724 rfl
theorem hdXM_come : yXM_come.cls = RXM ∧ yXM_come.cls ≠ "java/lang/invoke/MethodHandle" ∧ yXM_come.cls ≠ "java/lang/invoke/VarHandle" ∧ (parseMethodDescriptor yXM_come.desc).map (fun d => d.parameters.length) = some 1 := by decide +kernel
theorem dXM_come_0 : decode cXM_come 0 = .ok (.aload_n 0, 1) := by decide +kernel
theorem dXM_come_1 : decode cXM_come 1 = .ok (.iload_n 1, 1) := by decide +kernel
theorem dXM_come_2 : decode cXM_come 2 = .ok (.invokevirtual 125, 3) := by decide +kernel
theorem dXM_come_5 : decode cXM_come 5 = .ok (.istore_n 2, 1) := by decide +kernel
theorem dXM_come_6 : decode cXM_come 6 = .ok (.iconst 0, 1) := by decide +kernel
theorem dXM_come_7 : decode cXM_come 7 = .ok (.istore_n 3, 1) := by decide +kernel
theorem dXM_come_8 : decode cXM_come 8 = .ok (.iload_n 3, 1) := by decide +kernel
theorem dXM_come_9 : decode cXM_come 9 = .ok (.aload_n 0, 1) := by decide +kernel
theorem dXM_come_10 : decode cXM_come 10 = .ok (.getfield 41, 3) := by decide +kernel
theorem dXM_come_13 : decode cXM_come 13 = .ok (.iload_n 1, 1) := by decide +kernel
theorem dXM_come_14 : decode cXM_come 14 = .ok (.iaload, 1) := by decide +kernel
theorem dXM_come_15 : decode cXM_come 15 = .ok (.if_icmp .ge 44, 3) := by decide +kernel
theorem dXM_come_18 : decode cXM_come 18 = .ok (.aload_n 0, 1) := by decide +kernel
theorem dXM_come_19 : decode cXM_come 19 = .ok (.bipush 6, 2) := by decide +kernel
theorem dXM_come_21 : decode cXM_come 21 = .ok (.iload_n 1, 1) := by decide +kernel
theorem dXM_come_22 : decode cXM_come 22 = .ok (.imul, 1) := by decide +kernel
theorem dXM_come_23 : decode cXM_come 23 = .ok (.iload_n 3, 1) := by decide +kernel
theorem dXM_come_24 : decode cXM_come 24 = .ok (.iadd, 1) := by decide +kernel
theorem dXM_come_25 : decode cXM_come 25 = .ok (.invokevirtual 129, 3) := by decide +kernel
theorem dXM_come_28 : decode cXM_come 28 = .ok (.aload_n 0, 1) := by decide +kernel
theorem dXM_come_29 : decode cXM_come 29 = .ok (.iload_n 1, 1) := by decide +kernel
theorem dXM_come_30 : decode cXM_come 30 = .ok (.invokevirtual 112, 3) := by decide +kernel
theorem dXM_come_33 : decode cXM_come 33 = .ok (.ifCond .eq 20, 3) := by decide +kernel
theorem dXM_come_36 : decode cXM_come 36 = .ok (.aload_n 0, 1) := by decide +kernel
theorem dXM_come_37 : decode cXM_come 37 = .ok (.iload_n 1, 1) := by decide +kernel
theorem dXM_come_38 : decode cXM_come 38 = .ok (.iload_n 3, 1) := by decide +kernel
theorem dXM_come_39 : decode cXM_come 39 = .ok (.invokevirtual 100, 3) := by decide +kernel
theorem dXM_come_42 : decode cXM_come 42 = .ok (.aload_n 0, 1) := by decide +kernel
theorem dXM_come_43 : decode cXM_come 43 = .ok (.iload_n 1, 1) := by decide +kernel
theorem dXM_come_44 : decode cXM_come 44 = .ok (.invokevirtual 125, 3) := by decide +kernel
theorem dXM_come_47 : decode cXM_come 47 = .ok (.pop, 1) := by decide +kernel
theorem dXM_come_48 : decode cXM_come 48 = .ok (.iconst 0, 1) := by decide +kernel
theorem dXM_come_49 : decode cXM_come 49 = .ok (.istore_n 3, 1) := by decide +kernel
theorem dXM_come_50 : decode cXM_come 50 = .ok (.goto (-42), 3) := by decide +kernel
theorem dXM_come_53 : decode cXM_come 53 = .ok (.iinc 3 1, 3) := by decide +kernel
theorem dXM_come_56 : decode cXM_come 56 = .ok (.goto (-48), 3) := by decide +kernel
theorem dXM_come_59 : decode cXM_come 59 = .ok (.iload_n 2, 1) := by decide +kernel
theorem dXM_come_60 : decode cXM_come 60 = .ok (.ireturn, 1) := by decide +kernel
abbrev cXM_headSet : ByteArray := prog_10_method_24_code
def yXM_headSet : MethodName := ⟨RXM, "headSet", "(I)J"⟩
set_option maxRecDepth 100000 in
theorem qXM_headSet : Cond.code yXM_headSet cXM_headSet 5 (some .long) ∈ lg_tbl := fx_c 700 rfl
theorem hdXM_headSet : yXM_headSet.cls = RXM ∧ yXM_headSet.cls ≠ "java/lang/invoke/MethodHandle" ∧ yXM_headSet.cls ≠ "java/lang/invoke/VarHandle" ∧ (parseMethodDescriptor yXM_headSet.desc).map (fun d => d.parameters.length) = some 1 := by decide +kernel
theorem dXM_headSet_0 : decode cXM_headSet 0 = .ok (.lconst 0, 1) := by decide +kernel
theorem dXM_headSet_1 : decode cXM_headSet 1 = .ok (.lstore_n 2, 1) := by decide +kernel
theorem dXM_headSet_2 : decode cXM_headSet 2 = .ok (.iconst 0, 1) := by decide +kernel
theorem dXM_headSet_3 : decode cXM_headSet 3 = .ok (.istore 4, 2) := by decide +kernel
theorem dXM_headSet_5 : decode cXM_headSet 5 = .ok (.iload 4, 2) := by decide +kernel
theorem dXM_headSet_7 : decode cXM_headSet 7 = .ok (.aload_n 0, 1) := by decide +kernel
theorem dXM_headSet_8 : decode cXM_headSet 8 = .ok (.getfield 76, 3) := by decide +kernel
theorem dXM_headSet_11 : decode cXM_headSet 11 = .ok (.if_icmp .ge 37, 3) := by decide +kernel
theorem dXM_headSet_14 : decode cXM_headSet 14 = .ok (.aload_n 0, 1) := by decide +kernel
theorem dXM_headSet_15 : decode cXM_headSet 15 = .ok (.getfield 38, 3) := by decide +kernel
theorem dXM_headSet_18 : decode cXM_headSet 18 = .ok (.iload_n 1, 1) := by decide +kernel
theorem dXM_headSet_19 : decode cXM_headSet 19 = .ok (.laload, 1) := by decide +kernel
theorem dXM_headSet_20 : decode cXM_headSet 20 = .ok (.iload 4, 2) := by decide +kernel
theorem dXM_headSet_22 : decode cXM_headSet 22 = .ok (.invokestatic 88, 3) := by decide +kernel
theorem dXM_headSet_25 : decode cXM_headSet 25 = .ok (.ifCond .eq 15, 3) := by decide +kernel
theorem dXM_headSet_28 : decode cXM_headSet 28 = .ok (.lload_n 2, 1) := by decide +kernel
theorem dXM_headSet_29 : decode cXM_headSet 29 = .ok (.aload_n 0, 1) := by decide +kernel
theorem dXM_headSet_30 : decode cXM_headSet 30 = .ok (.getfield 32, 3) := by decide +kernel
theorem dXM_headSet_33 : decode cXM_headSet 33 = .ok (.iload 4, 2) := by decide +kernel
theorem dXM_headSet_35 : decode cXM_headSet 35 = .ok (.laload, 1) := by decide +kernel
theorem dXM_headSet_36 : decode cXM_headSet 36 = .ok (.lor, 1) := by decide +kernel
theorem dXM_headSet_37 : decode cXM_headSet 37 = .ok (.goto 4, 3) := by decide +kernel
theorem dXM_headSet_40 : decode cXM_headSet 40 = .ok (.lload_n 2, 1) := by decide +kernel
theorem dXM_headSet_41 : decode cXM_headSet 41 = .ok (.lstore_n 2, 1) := by decide +kernel
theorem dXM_headSet_42 : decode cXM_headSet 42 = .ok (.iinc 4 1, 3) := by decide +kernel
theorem dXM_headSet_45 : decode cXM_headSet 45 = .ok (.goto (-40), 3) := by decide +kernel
theorem dXM_headSet_48 : decode cXM_headSet 48 = .ok (.aload_n 0, 1) := by decide +kernel
theorem dXM_headSet_49 : decode cXM_headSet 49 = .ok (.getfield 38, 3) := by decide +kernel
theorem dXM_headSet_52 : decode cXM_headSet 52 = .ok (.iload_n 1, 1) := by decide +kernel
theorem dXM_headSet_53 : decode cXM_headSet 53 = .ok (.laload, 1) := by decide +kernel
theorem dXM_headSet_54 : decode cXM_headSet 54 = .ok (.lload_n 2, 1) := by decide +kernel
theorem dXM_headSet_55 : decode cXM_headSet 55 = .ok (.ldc2_w 151, 3) := by decide +kernel
theorem dXM_headSet_58 : decode cXM_headSet 58 = .ok (.lxor, 1) := by decide +kernel
theorem dXM_headSet_59 : decode cXM_headSet 59 = .ok (.land, 1) := by decide +kernel
theorem dXM_headSet_60 : decode cXM_headSet 60 = .ok (.lreturn, 1) := by decide +kernel
abbrev cXM_before : ByteArray := prog_10_method_29_code
def yXM_before : MethodName := ⟨RXM, "before", "(IIZ)Z"⟩
set_option maxRecDepth 100000 in
theorem qXM_before : Cond.code yXM_before cXM_before 4 (some .boolean) ∈ lg_tbl := fx_c 712 rfl
theorem hdXM_before : yXM_before.cls = RXM ∧ yXM_before.cls ≠ "java/lang/invoke/MethodHandle" ∧ yXM_before.cls ≠ "java/lang/invoke/VarHandle" ∧ (parseMethodDescriptor yXM_before.desc).map (fun d => d.parameters.length) = some 3 := by decide +kernel
theorem dXM_before_0 : decode cXM_before 0 = .ok (.iload_n 3, 1) := by decide +kernel
theorem dXM_before_1 : decode cXM_before 1 = .ok (.ifCond .eq 41, 3) := by decide +kernel
theorem dXM_before_4 : decode cXM_before 4 = .ok (.aload_n 0, 1) := by decide +kernel
theorem dXM_before_5 : decode cXM_before 5 = .ok (.getfield 35, 3) := by decide +kernel
theorem dXM_before_8 : decode cXM_before 8 = .ok (.iload_n 1, 1) := by decide +kernel
theorem dXM_before_9 : decode cXM_before 9 = .ok (.iaload, 1) := by decide +kernel
theorem dXM_before_10 : decode cXM_before 10 = .ok (.aload_n 0, 1) := by decide +kernel
theorem dXM_before_11 : decode cXM_before 11 = .ok (.getfield 35, 3) := by decide +kernel
theorem dXM_before_14 : decode cXM_before 14 = .ok (.iload_n 2, 1) := by decide +kernel
theorem dXM_before_15 : decode cXM_before 15 = .ok (.iaload, 1) := by decide +kernel
theorem dXM_before_16 : decode cXM_before 16 = .ok (.if_icmp .eq 26, 3) := by decide +kernel
theorem dXM_before_19 : decode cXM_before 19 = .ok (.aload_n 0, 1) := by decide +kernel
theorem dXM_before_20 : decode cXM_before 20 = .ok (.getfield 35, 3) := by decide +kernel
theorem dXM_before_23 : decode cXM_before 23 = .ok (.iload_n 1, 1) := by decide +kernel
theorem dXM_before_24 : decode cXM_before 24 = .ok (.iaload, 1) := by decide +kernel
theorem dXM_before_25 : decode cXM_before 25 = .ok (.aload_n 0, 1) := by decide +kernel
theorem dXM_before_26 : decode cXM_before 26 = .ok (.getfield 35, 3) := by decide +kernel
theorem dXM_before_29 : decode cXM_before 29 = .ok (.iload_n 2, 1) := by decide +kernel
theorem dXM_before_30 : decode cXM_before 30 = .ok (.iaload, 1) := by decide +kernel
theorem dXM_before_31 : decode cXM_before 31 = .ok (.if_icmp .ge 7, 3) := by decide +kernel
theorem dXM_before_34 : decode cXM_before 34 = .ok (.iconst 1, 1) := by decide +kernel
theorem dXM_before_35 : decode cXM_before 35 = .ok (.goto 28, 3) := by decide +kernel
theorem dXM_before_38 : decode cXM_before 38 = .ok (.iconst 0, 1) := by decide +kernel
theorem dXM_before_39 : decode cXM_before 39 = .ok (.goto 24, 3) := by decide +kernel
theorem dXM_before_42 : decode cXM_before 42 = .ok (.aload_n 0, 1) := by decide +kernel
theorem dXM_before_43 : decode cXM_before 43 = .ok (.getfield 7, 3) := by decide +kernel
theorem dXM_before_46 : decode cXM_before 46 = .ok (.iload_n 1, 1) := by decide +kernel
theorem dXM_before_47 : decode cXM_before 47 = .ok (.laload, 1) := by decide +kernel
theorem dXM_before_48 : decode cXM_before 48 = .ok (.aload_n 0, 1) := by decide +kernel
theorem dXM_before_49 : decode cXM_before 49 = .ok (.getfield 7, 3) := by decide +kernel
theorem dXM_before_52 : decode cXM_before 52 = .ok (.iload_n 2, 1) := by decide +kernel
theorem dXM_before_53 : decode cXM_before 53 = .ok (.laload, 1) := by decide +kernel
theorem dXM_before_54 : decode cXM_before 54 = .ok (.lcmp, 1) := by decide +kernel
theorem dXM_before_55 : decode cXM_before 55 = .ok (.ifCond .ge 7, 3) := by decide +kernel
theorem dXM_before_58 : decode cXM_before 58 = .ok (.iconst 1, 1) := by decide +kernel
theorem dXM_before_59 : decode cXM_before 59 = .ok (.goto 4, 3) := by decide +kernel
theorem dXM_before_62 : decode cXM_before 62 = .ok (.iconst 0, 1) := by decide +kernel
theorem dXM_before_63 : decode cXM_before 63 = .ok (.ireturn, 1) := by decide +kernel
abbrev cXM_sort : ByteArray := prog_10_method_30_code
def yXM_sort : MethodName := ⟨RXM, "sort", "(JZ)V"⟩
set_option maxRecDepth 100000 in
theorem qXM_sort : Cond.code yXM_sort cXM_sort 6 none ∈ lg_tbl := fx_c 708 rfl
theorem hdXM_sort : yXM_sort.cls = RXM ∧ yXM_sort.cls ≠ "java/lang/invoke/MethodHandle" ∧ yXM_sort.cls ≠ "java/lang/invoke/VarHandle" ∧ (parseMethodDescriptor yXM_sort.desc).map (fun d => d.parameters.length) = some 2 := by decide +kernel
theorem dXM_sort_0 : decode cXM_sort 0 = .ok (.aload_n 0, 1) := by decide +kernel
theorem dXM_sort_1 : decode cXM_sort 1 = .ok (.iconst 0, 1) := by decide +kernel
theorem dXM_sort_2 : decode cXM_sort 2 = .ok (.putfield 138, 3) := by decide +kernel
theorem dXM_sort_5 : decode cXM_sort 5 = .ok (.iconst 0, 1) := by decide +kernel
theorem dXM_sort_6 : decode cXM_sort 6 = .ok (.istore 4, 2) := by decide +kernel
theorem dXM_sort_8 : decode cXM_sort 8 = .ok (.iload 4, 2) := by decide +kernel
theorem dXM_sort_10 : decode cXM_sort 10 = .ok (.aload_n 0, 1) := by decide +kernel
theorem dXM_sort_11 : decode cXM_sort 11 = .ok (.getfield 76, 3) := by decide +kernel
theorem dXM_sort_14 : decode cXM_sort 14 = .ok (.if_icmp .ge 89, 3) := by decide +kernel
theorem dXM_sort_17 : decode cXM_sort 17 = .ok (.lload_n 1, 1) := by decide +kernel
theorem dXM_sort_18 : decode cXM_sort 18 = .ok (.iload 4, 2) := by decide +kernel
theorem dXM_sort_20 : decode cXM_sort 20 = .ok (.invokestatic 88, 3) := by decide +kernel
theorem dXM_sort_23 : decode cXM_sort 23 = .ok (.ifCond .eq 74, 3) := by decide +kernel
theorem dXM_sort_26 : decode cXM_sort 26 = .ok (.aload_n 0, 1) := by decide +kernel
theorem dXM_sort_27 : decode cXM_sort 27 = .ok (.getfield 138, 3) := by decide +kernel
theorem dXM_sort_30 : decode cXM_sort 30 = .ok (.istore 5, 2) := by decide +kernel
theorem dXM_sort_32 : decode cXM_sort 32 = .ok (.iload 5, 2) := by decide +kernel
theorem dXM_sort_34 : decode cXM_sort 34 = .ok (.ifCond .le 44, 3) := by decide +kernel
theorem dXM_sort_37 : decode cXM_sort 37 = .ok (.aload_n 0, 1) := by decide +kernel
theorem dXM_sort_38 : decode cXM_sort 38 = .ok (.iload 4, 2) := by decide +kernel
theorem dXM_sort_40 : decode cXM_sort 40 = .ok (.aload_n 0, 1) := by decide +kernel
theorem dXM_sort_41 : decode cXM_sort 41 = .ok (.getfield 65, 3) := by decide +kernel
theorem dXM_sort_44 : decode cXM_sort 44 = .ok (.iload 5, 2) := by decide +kernel
theorem dXM_sort_46 : decode cXM_sort 46 = .ok (.iconst 1, 1) := by decide +kernel
theorem dXM_sort_47 : decode cXM_sort 47 = .ok (.isub, 1) := by decide +kernel
theorem dXM_sort_48 : decode cXM_sort 48 = .ok (.iaload, 1) := by decide +kernel
theorem dXM_sort_49 : decode cXM_sort 49 = .ok (.iload_n 3, 1) := by decide +kernel
theorem dXM_sort_50 : decode cXM_sort 50 = .ok (.invokevirtual 169, 3) := by decide +kernel
theorem dXM_sort_53 : decode cXM_sort 53 = .ok (.ifCond .eq 25, 3) := by decide +kernel
theorem dXM_sort_56 : decode cXM_sort 56 = .ok (.aload_n 0, 1) := by decide +kernel
theorem dXM_sort_57 : decode cXM_sort 57 = .ok (.getfield 65, 3) := by decide +kernel
theorem dXM_sort_60 : decode cXM_sort 60 = .ok (.iload 5, 2) := by decide +kernel
theorem dXM_sort_62 : decode cXM_sort 62 = .ok (.aload_n 0, 1) := by decide +kernel
theorem dXM_sort_63 : decode cXM_sort 63 = .ok (.getfield 65, 3) := by decide +kernel
theorem dXM_sort_66 : decode cXM_sort 66 = .ok (.iload 5, 2) := by decide +kernel
theorem dXM_sort_68 : decode cXM_sort 68 = .ok (.iconst 1, 1) := by decide +kernel
theorem dXM_sort_69 : decode cXM_sort 69 = .ok (.isub, 1) := by decide +kernel
theorem dXM_sort_70 : decode cXM_sort 70 = .ok (.iaload, 1) := by decide +kernel
theorem dXM_sort_71 : decode cXM_sort 71 = .ok (.iastore, 1) := by decide +kernel
theorem dXM_sort_72 : decode cXM_sort 72 = .ok (.iinc 5 (-1), 3) := by decide +kernel
theorem dXM_sort_75 : decode cXM_sort 75 = .ok (.goto (-43), 3) := by decide +kernel
theorem dXM_sort_78 : decode cXM_sort 78 = .ok (.aload_n 0, 1) := by decide +kernel
theorem dXM_sort_79 : decode cXM_sort 79 = .ok (.getfield 65, 3) := by decide +kernel
theorem dXM_sort_82 : decode cXM_sort 82 = .ok (.iload 5, 2) := by decide +kernel
theorem dXM_sort_84 : decode cXM_sort 84 = .ok (.iload 4, 2) := by decide +kernel
theorem dXM_sort_86 : decode cXM_sort 86 = .ok (.iastore, 1) := by decide +kernel
theorem dXM_sort_87 : decode cXM_sort 87 = .ok (.aload_n 0, 1) := by decide +kernel
theorem dXM_sort_88 : decode cXM_sort 88 = .ok (.dup, 1) := by decide +kernel
theorem dXM_sort_89 : decode cXM_sort 89 = .ok (.getfield 138, 3) := by decide +kernel
theorem dXM_sort_92 : decode cXM_sort 92 = .ok (.iconst 1, 1) := by decide +kernel
theorem dXM_sort_93 : decode cXM_sort 93 = .ok (.iadd, 1) := by decide +kernel
theorem dXM_sort_94 : decode cXM_sort 94 = .ok (.putfield 138, 3) := by decide +kernel
theorem dXM_sort_97 : decode cXM_sort 97 = .ok (.iinc 4 1, 3) := by decide +kernel
theorem dXM_sort_100 : decode cXM_sort 100 = .ok (.goto (-92), 3) := by decide +kernel
theorem dXM_sort_103 : decode cXM_sort 103 = .ok (.return_, 1) := by decide +kernel
abbrev cXM_sortHeads : ByteArray := prog_10_method_31_code
def yXM_sortHeads : MethodName := ⟨RXM, "sortHeads", "(I)V"⟩
set_option maxRecDepth 100000 in
theorem qXM_sortHeads : Cond.code yXM_sortHeads cXM_sortHeads 2 none ∈ lg_tbl := fx_c 696 rfl
theorem hdXM_sortHeads : yXM_sortHeads.cls = RXM ∧ yXM_sortHeads.cls ≠ "java/lang/invoke/MethodHandle" ∧ yXM_sortHeads.cls ≠ "java/lang/invoke/VarHandle" ∧ (parseMethodDescriptor yXM_sortHeads.desc).map (fun d => d.parameters.length) = some 1 := by decide +kernel
theorem dXM_sortHeads_0 : decode cXM_sortHeads 0 = .ok (.aload_n 0, 1) := by decide +kernel
theorem dXM_sortHeads_1 : decode cXM_sortHeads 1 = .ok (.aload_n 0, 1) := by decide +kernel
theorem dXM_sortHeads_2 : decode cXM_sortHeads 2 = .ok (.iload_n 1, 1) := by decide +kernel
theorem dXM_sortHeads_3 : decode cXM_sortHeads 3 = .ok (.invokevirtual 157, 3) := by decide +kernel
theorem dXM_sortHeads_6 : decode cXM_sortHeads 6 = .ok (.iconst 0, 1) := by decide +kernel
theorem dXM_sortHeads_7 : decode cXM_sortHeads 7 = .ok (.invokevirtual 153, 3) := by decide +kernel
theorem dXM_sortHeads_10 : decode cXM_sortHeads 10 = .ok (.return_, 1) := by decide +kernel
abbrev cXM_write : ByteArray := prog_10_method_19_code
def yXM_write : MethodName := ⟨RXM, "write", "(IIII)I"⟩
set_option maxRecDepth 100000 in
theorem qXM_write : Cond.code yXM_write cXM_write 7 (some .int) ∈ lg_tbl := fx_c 689 rfl
theorem hdXM_write : yXM_write.cls = RXM ∧ yXM_write.cls ≠ "java/lang/invoke/MethodHandle" ∧ yXM_write.cls ≠ "java/lang/invoke/VarHandle" ∧ (parseMethodDescriptor yXM_write.desc).map (fun d => d.parameters.length) = some 4 := by decide +kernel
theorem dXM_write_0 : decode cXM_write 0 = .ok (.iload_n 1, 1) := by decide +kernel
theorem dXM_write_1 : decode cXM_write 1 = .ok (.invokestatic 132, 3) := by decide +kernel
theorem dXM_write_4 : decode cXM_write 4 = .ok (.ifCond .ne 5, 3) := by decide +kernel
theorem dXM_write_7 : decode cXM_write 7 = .ok (.iconst (-1), 1) := by decide +kernel
theorem dXM_write_8 : decode cXM_write 8 = .ok (.ireturn, 1) := by decide +kernel
theorem dXM_write_9 : decode cXM_write 9 = .ok (.aload_n 0, 1) := by decide +kernel
theorem dXM_write_10 : decode cXM_write 10 = .ok (.iload_n 1, 1) := by decide +kernel
theorem dXM_write_11 : decode cXM_write 11 = .ok (.invokevirtual 135, 3) := by decide +kernel
theorem dXM_write_14 : decode cXM_write 14 = .ok (.aload_n 0, 1) := by decide +kernel
theorem dXM_write_15 : decode cXM_write 15 = .ok (.getfield 138, 3) := by decide +kernel
theorem dXM_write_18 : decode cXM_write 18 = .ok (.iconst 4, 1) := by decide +kernel
theorem dXM_write_19 : decode cXM_write 19 = .ok (.if_icmp .le 12, 3) := by decide +kernel
theorem dXM_write_22 : decode cXM_write 22 = .ok (.aload_n 0, 1) := by decide +kernel
theorem dXM_write_23 : decode cXM_write 23 = .ok (.getfield 138, 3) := by decide +kernel
theorem dXM_write_26 : decode cXM_write 26 = .ok (.iconst 4, 1) := by decide +kernel
theorem dXM_write_27 : decode cXM_write 27 = .ok (.isub, 1) := by decide +kernel
theorem dXM_write_28 : decode cXM_write 28 = .ok (.goto 4, 3) := by decide +kernel
theorem dXM_write_31 : decode cXM_write 31 = .ok (.iconst 0, 1) := by decide +kernel
theorem dXM_write_32 : decode cXM_write 32 = .ok (.istore 5, 2) := by decide +kernel
theorem dXM_write_34 : decode cXM_write 34 = .ok (.aload_n 0, 1) := by decide +kernel
theorem dXM_write_35 : decode cXM_write 35 = .ok (.getfield 59, 3) := by decide +kernel
theorem dXM_write_38 : decode cXM_write 38 = .ok (.iconst 0, 1) := by decide +kernel
theorem dXM_write_39 : decode cXM_write 39 = .ok (.iload_n 1, 1) := by decide +kernel
theorem dXM_write_40 : decode cXM_write 40 = .ok (.iastore, 1) := by decide +kernel
theorem dXM_write_41 : decode cXM_write 41 = .ok (.aload_n 0, 1) := by decide +kernel
theorem dXM_write_42 : decode cXM_write 42 = .ok (.getfield 59, 3) := by decide +kernel
theorem dXM_write_45 : decode cXM_write 45 = .ok (.iconst 1, 1) := by decide +kernel
theorem dXM_write_46 : decode cXM_write 46 = .ok (.iload_n 2, 1) := by decide +kernel
theorem dXM_write_47 : decode cXM_write 47 = .ok (.iastore, 1) := by decide +kernel
theorem dXM_write_48 : decode cXM_write 48 = .ok (.aload_n 0, 1) := by decide +kernel
theorem dXM_write_49 : decode cXM_write 49 = .ok (.getfield 59, 3) := by decide +kernel
theorem dXM_write_52 : decode cXM_write 52 = .ok (.iconst 2, 1) := by decide +kernel
theorem dXM_write_53 : decode cXM_write 53 = .ok (.iload_n 3, 1) := by decide +kernel
theorem dXM_write_54 : decode cXM_write 54 = .ok (.iastore, 1) := by decide +kernel
theorem dXM_write_55 : decode cXM_write 55 = .ok (.aload_n 0, 1) := by decide +kernel
theorem dXM_write_56 : decode cXM_write 56 = .ok (.getfield 59, 3) := by decide +kernel
theorem dXM_write_59 : decode cXM_write 59 = .ok (.iconst 3, 1) := by decide +kernel
theorem dXM_write_60 : decode cXM_write 60 = .ok (.iload 4, 2) := by decide +kernel
theorem dXM_write_62 : decode cXM_write 62 = .ok (.iastore, 1) := by decide +kernel
theorem dXM_write_63 : decode cXM_write 63 = .ok (.aload_n 0, 1) := by decide +kernel
theorem dXM_write_64 : decode cXM_write 64 = .ok (.getfield 59, 3) := by decide +kernel
theorem dXM_write_67 : decode cXM_write 67 = .ok (.iconst 4, 1) := by decide +kernel
theorem dXM_write_68 : decode cXM_write 68 = .ok (.aload_n 0, 1) := by decide +kernel
theorem dXM_write_69 : decode cXM_write 69 = .ok (.getfield 138, 3) := by decide +kernel
theorem dXM_write_72 : decode cXM_write 72 = .ok (.iload 5, 2) := by decide +kernel
theorem dXM_write_74 : decode cXM_write 74 = .ok (.isub, 1) := by decide +kernel
theorem dXM_write_75 : decode cXM_write 75 = .ok (.iastore, 1) := by decide +kernel
theorem dXM_write_76 : decode cXM_write 76 = .ok (.iload 5, 2) := by decide +kernel
theorem dXM_write_78 : decode cXM_write 78 = .ok (.istore 6, 2) := by decide +kernel
theorem dXM_write_80 : decode cXM_write 80 = .ok (.iload 6, 2) := by decide +kernel
theorem dXM_write_82 : decode cXM_write 82 = .ok (.aload_n 0, 1) := by decide +kernel
theorem dXM_write_83 : decode cXM_write 83 = .ok (.getfield 138, 3) := by decide +kernel
theorem dXM_write_86 : decode cXM_write 86 = .ok (.if_icmp .ge 31, 3) := by decide +kernel
theorem dXM_write_89 : decode cXM_write 89 = .ok (.aload_n 0, 1) := by decide +kernel
theorem dXM_write_90 : decode cXM_write 90 = .ok (.getfield 62, 3) := by decide +kernel
theorem dXM_write_93 : decode cXM_write 93 = .ok (.iload 6, 2) := by decide +kernel
theorem dXM_write_95 : decode cXM_write 95 = .ok (.iload 5, 2) := by decide +kernel
theorem dXM_write_97 : decode cXM_write 97 = .ok (.isub, 1) := by decide +kernel
theorem dXM_write_98 : decode cXM_write 98 = .ok (.aload_n 0, 1) := by decide +kernel
theorem dXM_write_99 : decode cXM_write 99 = .ok (.getfield 7, 3) := by decide +kernel
theorem dXM_write_102 : decode cXM_write 102 = .ok (.aload_n 0, 1) := by decide +kernel
theorem dXM_write_103 : decode cXM_write 103 = .ok (.getfield 65, 3) := by decide +kernel
theorem dXM_write_106 : decode cXM_write 106 = .ok (.iload 6, 2) := by decide +kernel
theorem dXM_write_108 : decode cXM_write 108 = .ok (.iaload, 1) := by decide +kernel
theorem dXM_write_109 : decode cXM_write 109 = .ok (.laload, 1) := by decide +kernel
theorem dXM_write_110 : decode cXM_write 110 = .ok (.lastore, 1) := by decide +kernel
theorem dXM_write_111 : decode cXM_write 111 = .ok (.iinc 6 1, 3) := by decide +kernel
theorem dXM_write_114 : decode cXM_write 114 = .ok (.goto (-34), 3) := by decide +kernel
theorem dXM_write_117 : decode cXM_write 117 = .ok (.aload_n 0, 1) := by decide +kernel
theorem dXM_write_118 : decode cXM_write 118 = .ok (.aload_n 0, 1) := by decide +kernel
theorem dXM_write_119 : decode cXM_write 119 = .ok (.getfield 59, 3) := by decide +kernel
theorem dXM_write_122 : decode cXM_write 122 = .ok (.aload_n 0, 1) := by decide +kernel
theorem dXM_write_123 : decode cXM_write 123 = .ok (.getfield 62, 3) := by decide +kernel
theorem dXM_write_126 : decode cXM_write 126 = .ok (.invokestatic 141, 3) := by decide +kernel
theorem dXM_write_129 : decode cXM_write 129 = .ok (.putfield 80, 3) := by decide +kernel
theorem dXM_write_132 : decode cXM_write 132 = .ok (.aload_n 0, 1) := by decide +kernel
theorem dXM_write_133 : decode cXM_write 133 = .ok (.iload_n 1, 1) := by decide +kernel
theorem dXM_write_134 : decode cXM_write 134 = .ok (.invokevirtual 145, 3) := by decide +kernel
theorem dXM_write_137 : decode cXM_write 137 = .ok (.ireturn, 1) := by decide +kernel
