abbrev cXM_depthOf : ByteArray := prog_10_method_12_code
def yXM_depthOf : MethodName := ⟨RXM, "depthOf", "()I"⟩
set_option maxRecDepth 100000 in
theorem qXM_depthOf : Cond.code yXM_depthOf cXM_depthOf 4 (some .int) ∈ lg_tbl := fx_c 768 rfl
theorem hdXM_depthOf : yXM_depthOf.cls = RXM ∧ yXM_depthOf.cls ≠ "java/lang/invoke/MethodHandle" ∧ yXM_depthOf.cls ≠ "java/lang/invoke/VarHandle" ∧ (parseMethodDescriptor yXM_depthOf.desc).map (fun d => d.parameters.length) = some 0 := by decide +kernel
theorem dXM_depthOf_0 : decode cXM_depthOf 0 = .ok (.iconst 0, 1) := by decide +kernel
theorem dXM_depthOf_1 : decode cXM_depthOf 1 = .ok (.istore_n 1, 1) := by decide +kernel
theorem dXM_depthOf_2 : decode cXM_depthOf 2 = .ok (.iconst 0, 1) := by decide +kernel
theorem dXM_depthOf_3 : decode cXM_depthOf 3 = .ok (.istore_n 2, 1) := by decide +kernel
theorem dXM_depthOf_4 : decode cXM_depthOf 4 = .ok (.iload_n 2, 1) := by decide +kernel
theorem dXM_depthOf_5 : decode cXM_depthOf 5 = .ok (.aload_n 0, 1) := by decide +kernel
theorem dXM_depthOf_6 : decode cXM_depthOf 6 = .ok (.getfield 59, 3) := by decide +kernel
theorem dXM_depthOf_9 : decode cXM_depthOf 9 = .ok (.iconst 4, 1) := by decide +kernel
theorem dXM_depthOf_10 : decode cXM_depthOf 10 = .ok (.iaload, 1) := by decide +kernel
theorem dXM_depthOf_11 : decode cXM_depthOf 11 = .ok (.if_icmp .ge 41, 3) := by decide +kernel
theorem dXM_depthOf_14 : decode cXM_depthOf 14 = .ok (.aload_n 0, 1) := by decide +kernel
theorem dXM_depthOf_15 : decode cXM_depthOf 15 = .ok (.aload_n 0, 1) := by decide +kernel
theorem dXM_depthOf_16 : decode cXM_depthOf 16 = .ok (.getfield 62, 3) := by decide +kernel
theorem dXM_depthOf_19 : decode cXM_depthOf 19 = .ok (.iload_n 2, 1) := by decide +kernel
theorem dXM_depthOf_20 : decode cXM_depthOf 20 = .ok (.laload, 1) := by decide +kernel
theorem dXM_depthOf_21 : decode cXM_depthOf 21 = .ok (.invokevirtual 84, 3) := by decide +kernel
theorem dXM_depthOf_24 : decode cXM_depthOf 24 = .ok (.istore_n 3, 1) := by decide +kernel
theorem dXM_depthOf_25 : decode cXM_depthOf 25 = .ok (.aload_n 0, 1) := by decide +kernel
theorem dXM_depthOf_26 : decode cXM_depthOf 26 = .ok (.getfield 35, 3) := by decide +kernel
theorem dXM_depthOf_29 : decode cXM_depthOf 29 = .ok (.iload_n 3, 1) := by decide +kernel
theorem dXM_depthOf_30 : decode cXM_depthOf 30 = .ok (.iaload, 1) := by decide +kernel
theorem dXM_depthOf_31 : decode cXM_depthOf 31 = .ok (.iload_n 1, 1) := by decide +kernel
theorem dXM_depthOf_32 : decode cXM_depthOf 32 = .ok (.if_icmp .le 12, 3) := by decide +kernel
theorem dXM_depthOf_35 : decode cXM_depthOf 35 = .ok (.aload_n 0, 1) := by decide +kernel
theorem dXM_depthOf_36 : decode cXM_depthOf 36 = .ok (.getfield 35, 3) := by decide +kernel
theorem dXM_depthOf_39 : decode cXM_depthOf 39 = .ok (.iload_n 3, 1) := by decide +kernel
theorem dXM_depthOf_40 : decode cXM_depthOf 40 = .ok (.iaload, 1) := by decide +kernel
theorem dXM_depthOf_41 : decode cXM_depthOf 41 = .ok (.goto 4, 3) := by decide +kernel
theorem dXM_depthOf_44 : decode cXM_depthOf 44 = .ok (.iload_n 1, 1) := by decide +kernel
theorem dXM_depthOf_45 : decode cXM_depthOf 45 = .ok (.istore_n 1, 1) := by decide +kernel
theorem dXM_depthOf_46 : decode cXM_depthOf 46 = .ok (.iinc 2 1, 3) := by decide +kernel
theorem dXM_depthOf_49 : decode cXM_depthOf 49 = .ok (.goto (-45), 3) := by decide +kernel
theorem dXM_depthOf_52 : decode cXM_depthOf 52 = .ok (.iload_n 1, 1) := by decide +kernel
theorem dXM_depthOf_53 : decode cXM_depthOf 53 = .ok (.iconst 1, 1) := by decide +kernel
theorem dXM_depthOf_54 : decode cXM_depthOf 54 = .ok (.iadd, 1) := by decide +kernel
theorem dXM_depthOf_55 : decode cXM_depthOf 55 = .ok (.ireturn, 1) := by decide +kernel
abbrev cXM_enter : ByteArray := prog_10_method_13_code
def yXM_enter : MethodName := ⟨RXM, "enter", "()I"⟩
set_option maxRecDepth 100000 in
theorem qXM_enter : Cond.code yXM_enter cXM_enter 3 (some .int) ∈ lg_tbl := fx_c 764 rfl
theorem hdXM_enter : yXM_enter.cls = RXM ∧ yXM_enter.cls ≠ "java/lang/invoke/MethodHandle" ∧ yXM_enter.cls ≠ "java/lang/invoke/VarHandle" ∧ (parseMethodDescriptor yXM_enter.desc).map (fun d => d.parameters.length) = some 0 := by decide +kernel
theorem dXM_enter_0 : decode cXM_enter 0 = .ok (.aload_n 0, 1) := by decide +kernel
theorem dXM_enter_1 : decode cXM_enter 1 = .ok (.getfield 76, 3) := by decide +kernel
theorem dXM_enter_4 : decode cXM_enter 4 = .ok (.istore_n 1, 1) := by decide +kernel
theorem dXM_enter_5 : decode cXM_enter 5 = .ok (.aload_n 0, 1) := by decide +kernel
theorem dXM_enter_6 : decode cXM_enter 6 = .ok (.getfield 7, 3) := by decide +kernel
theorem dXM_enter_9 : decode cXM_enter 9 = .ok (.iload_n 1, 1) := by decide +kernel
theorem dXM_enter_10 : decode cXM_enter 10 = .ok (.aload_n 0, 1) := by decide +kernel
theorem dXM_enter_11 : decode cXM_enter 11 = .ok (.getfield 80, 3) := by decide +kernel
theorem dXM_enter_14 : decode cXM_enter 14 = .ok (.lastore, 1) := by decide +kernel
theorem dXM_enter_15 : decode cXM_enter 15 = .ok (.aload_n 0, 1) := by decide +kernel
theorem dXM_enter_16 : decode cXM_enter 16 = .ok (.getfield 13, 3) := by decide +kernel
theorem dXM_enter_19 : decode cXM_enter 19 = .ok (.iload_n 1, 1) := by decide +kernel
theorem dXM_enter_20 : decode cXM_enter 20 = .ok (.aload_n 0, 1) := by decide +kernel
theorem dXM_enter_21 : decode cXM_enter 21 = .ok (.getfield 59, 3) := by decide +kernel
theorem dXM_enter_24 : decode cXM_enter 24 = .ok (.iconst 0, 1) := by decide +kernel
theorem dXM_enter_25 : decode cXM_enter 25 = .ok (.iaload, 1) := by decide +kernel
theorem dXM_enter_26 : decode cXM_enter 26 = .ok (.iastore, 1) := by decide +kernel
theorem dXM_enter_27 : decode cXM_enter 27 = .ok (.aload_n 0, 1) := by decide +kernel
theorem dXM_enter_28 : decode cXM_enter 28 = .ok (.getfield 17, 3) := by decide +kernel
theorem dXM_enter_31 : decode cXM_enter 31 = .ok (.iload_n 1, 1) := by decide +kernel
theorem dXM_enter_32 : decode cXM_enter 32 = .ok (.aload_n 0, 1) := by decide +kernel
theorem dXM_enter_33 : decode cXM_enter 33 = .ok (.getfield 59, 3) := by decide +kernel
theorem dXM_enter_36 : decode cXM_enter 36 = .ok (.iconst 1, 1) := by decide +kernel
theorem dXM_enter_37 : decode cXM_enter 37 = .ok (.iaload, 1) := by decide +kernel
theorem dXM_enter_38 : decode cXM_enter 38 = .ok (.iastore, 1) := by decide +kernel
theorem dXM_enter_39 : decode cXM_enter 39 = .ok (.aload_n 0, 1) := by decide +kernel
theorem dXM_enter_40 : decode cXM_enter 40 = .ok (.getfield 20, 3) := by decide +kernel
theorem dXM_enter_43 : decode cXM_enter 43 = .ok (.iload_n 1, 1) := by decide +kernel
theorem dXM_enter_44 : decode cXM_enter 44 = .ok (.aload_n 0, 1) := by decide +kernel
theorem dXM_enter_45 : decode cXM_enter 45 = .ok (.getfield 59, 3) := by decide +kernel
theorem dXM_enter_48 : decode cXM_enter 48 = .ok (.iconst 2, 1) := by decide +kernel
theorem dXM_enter_49 : decode cXM_enter 49 = .ok (.iaload, 1) := by decide +kernel
theorem dXM_enter_50 : decode cXM_enter 50 = .ok (.iastore, 1) := by decide +kernel
theorem dXM_enter_51 : decode cXM_enter 51 = .ok (.aload_n 0, 1) := by decide +kernel
theorem dXM_enter_52 : decode cXM_enter 52 = .ok (.getfield 23, 3) := by decide +kernel
theorem dXM_enter_55 : decode cXM_enter 55 = .ok (.iload_n 1, 1) := by decide +kernel
theorem dXM_enter_56 : decode cXM_enter 56 = .ok (.aload_n 0, 1) := by decide +kernel
theorem dXM_enter_57 : decode cXM_enter 57 = .ok (.getfield 59, 3) := by decide +kernel
theorem dXM_enter_60 : decode cXM_enter 60 = .ok (.iconst 3, 1) := by decide +kernel
theorem dXM_enter_61 : decode cXM_enter 61 = .ok (.iaload, 1) := by decide +kernel
theorem dXM_enter_62 : decode cXM_enter 62 = .ok (.iastore, 1) := by decide +kernel
theorem dXM_enter_63 : decode cXM_enter 63 = .ok (.aload_n 0, 1) := by decide +kernel
theorem dXM_enter_64 : decode cXM_enter 64 = .ok (.getfield 26, 3) := by decide +kernel
theorem dXM_enter_67 : decode cXM_enter 67 = .ok (.iload_n 1, 1) := by decide +kernel
theorem dXM_enter_68 : decode cXM_enter 68 = .ok (.aload_n 0, 1) := by decide +kernel
theorem dXM_enter_69 : decode cXM_enter 69 = .ok (.getfield 59, 3) := by decide +kernel
theorem dXM_enter_72 : decode cXM_enter 72 = .ok (.iconst 4, 1) := by decide +kernel
theorem dXM_enter_73 : decode cXM_enter 73 = .ok (.iaload, 1) := by decide +kernel
theorem dXM_enter_74 : decode cXM_enter 74 = .ok (.iastore, 1) := by decide +kernel
theorem dXM_enter_75 : decode cXM_enter 75 = .ok (.iconst 0, 1) := by decide +kernel
theorem dXM_enter_76 : decode cXM_enter 76 = .ok (.istore_n 2, 1) := by decide +kernel
theorem dXM_enter_77 : decode cXM_enter 77 = .ok (.iload_n 2, 1) := by decide +kernel
theorem dXM_enter_78 : decode cXM_enter 78 = .ok (.iconst 4, 1) := by decide +kernel
theorem dXM_enter_79 : decode cXM_enter 79 = .ok (.if_icmp .ge 39, 3) := by decide +kernel
theorem dXM_enter_82 : decode cXM_enter 82 = .ok (.aload_n 0, 1) := by decide +kernel
theorem dXM_enter_83 : decode cXM_enter 83 = .ok (.getfield 29, 3) := by decide +kernel
theorem dXM_enter_86 : decode cXM_enter 86 = .ok (.iconst 4, 1) := by decide +kernel
theorem dXM_enter_87 : decode cXM_enter 87 = .ok (.iload_n 1, 1) := by decide +kernel
theorem dXM_enter_88 : decode cXM_enter 88 = .ok (.imul, 1) := by decide +kernel
theorem dXM_enter_89 : decode cXM_enter 89 = .ok (.iload_n 2, 1) := by decide +kernel
theorem dXM_enter_90 : decode cXM_enter 90 = .ok (.iadd, 1) := by decide +kernel
theorem dXM_enter_91 : decode cXM_enter 91 = .ok (.iload_n 2, 1) := by decide +kernel
theorem dXM_enter_92 : decode cXM_enter 92 = .ok (.aload_n 0, 1) := by decide +kernel
theorem dXM_enter_93 : decode cXM_enter 93 = .ok (.getfield 59, 3) := by decide +kernel
theorem dXM_enter_96 : decode cXM_enter 96 = .ok (.iconst 4, 1) := by decide +kernel
theorem dXM_enter_97 : decode cXM_enter 97 = .ok (.iaload, 1) := by decide +kernel
theorem dXM_enter_98 : decode cXM_enter 98 = .ok (.if_icmp .ge 12, 3) := by decide +kernel
theorem dXM_enter_101 : decode cXM_enter 101 = .ok (.aload_n 0, 1) := by decide +kernel
theorem dXM_enter_102 : decode cXM_enter 102 = .ok (.getfield 62, 3) := by decide +kernel
theorem dXM_enter_105 : decode cXM_enter 105 = .ok (.iload_n 2, 1) := by decide +kernel
theorem dXM_enter_106 : decode cXM_enter 106 = .ok (.laload, 1) := by decide +kernel
theorem dXM_enter_107 : decode cXM_enter 107 = .ok (.goto 4, 3) := by decide +kernel
theorem dXM_enter_110 : decode cXM_enter 110 = .ok (.lconst 0, 1) := by decide +kernel
theorem dXM_enter_111 : decode cXM_enter 111 = .ok (.lastore, 1) := by decide +kernel
theorem dXM_enter_112 : decode cXM_enter 112 = .ok (.iinc 2 1, 3) := by decide +kernel
theorem dXM_enter_115 : decode cXM_enter 115 = .ok (.goto (-38), 3) := by decide +kernel
theorem dXM_enter_118 : decode cXM_enter 118 = .ok (.aload_n 0, 1) := by decide +kernel
theorem dXM_enter_119 : decode cXM_enter 119 = .ok (.getfield 32, 3) := by decide +kernel
theorem dXM_enter_122 : decode cXM_enter 122 = .ok (.iload_n 1, 1) := by decide +kernel
theorem dXM_enter_123 : decode cXM_enter 123 = .ok (.aload_n 0, 1) := by decide +kernel
theorem dXM_enter_124 : decode cXM_enter 124 = .ok (.invokevirtual 92, 3) := by decide +kernel
theorem dXM_enter_127 : decode cXM_enter 127 = .ok (.lastore, 1) := by decide +kernel
theorem dXM_enter_128 : decode cXM_enter 128 = .ok (.aload_n 0, 1) := by decide +kernel
theorem dXM_enter_129 : decode cXM_enter 129 = .ok (.getfield 35, 3) := by decide +kernel
theorem dXM_enter_132 : decode cXM_enter 132 = .ok (.iload_n 1, 1) := by decide +kernel
theorem dXM_enter_133 : decode cXM_enter 133 = .ok (.aload_n 0, 1) := by decide +kernel
theorem dXM_enter_134 : decode cXM_enter 134 = .ok (.invokevirtual 96, 3) := by decide +kernel
theorem dXM_enter_137 : decode cXM_enter 137 = .ok (.iastore, 1) := by decide +kernel
theorem dXM_enter_138 : decode cXM_enter 138 = .ok (.aload_n 0, 1) := by decide +kernel
theorem dXM_enter_139 : decode cXM_enter 139 = .ok (.dup, 1) := by decide +kernel
theorem dXM_enter_140 : decode cXM_enter 140 = .ok (.getfield 76, 3) := by decide +kernel
theorem dXM_enter_143 : decode cXM_enter 143 = .ok (.iconst 1, 1) := by decide +kernel
theorem dXM_enter_144 : decode cXM_enter 144 = .ok (.iadd, 1) := by decide +kernel
theorem dXM_enter_145 : decode cXM_enter 145 = .ok (.putfield 76, 3) := by decide +kernel
theorem dXM_enter_148 : decode cXM_enter 148 = .ok (.iload_n 1, 1) := by decide +kernel
theorem dXM_enter_149 : decode cXM_enter 149 = .ok (.ireturn, 1) := by decide +kernel
abbrev cXM_leave : ByteArray := prog_10_method_15_code
def yXM_leave : MethodName := ⟨RXM, "leave", "(II)V"⟩
set_option maxRecDepth 100000 in
theorem qXM_leave : Cond.code yXM_leave cXM_leave 5 none ∈ lg_tbl := fx_c 752 rfl
theorem hdXM_leave : yXM_leave.cls = RXM ∧ yXM_leave.cls ≠ "java/lang/invoke/MethodHandle" ∧ yXM_leave.cls ≠ "java/lang/invoke/VarHandle" ∧ (parseMethodDescriptor yXM_leave.desc).map (fun d => d.parameters.length) = some 2 := by decide +kernel
theorem dXM_leave_0 : decode cXM_leave 0 = .ok (.aload_n 0, 1) := by decide +kernel
theorem dXM_leave_1 : decode cXM_leave 1 = .ok (.getfield 41, 3) := by decide +kernel
theorem dXM_leave_4 : decode cXM_leave 4 = .ok (.iload_n 1, 1) := by decide +kernel
theorem dXM_leave_5 : decode cXM_leave 5 = .ok (.dup2, 1) := by decide +kernel
theorem dXM_leave_6 : decode cXM_leave 6 = .ok (.iaload, 1) := by decide +kernel
theorem dXM_leave_7 : decode cXM_leave 7 = .ok (.iconst 1, 1) := by decide +kernel
theorem dXM_leave_8 : decode cXM_leave 8 = .ok (.isub, 1) := by decide +kernel
theorem dXM_leave_9 : decode cXM_leave 9 = .ok (.iastore, 1) := by decide +kernel
theorem dXM_leave_10 : decode cXM_leave 10 = .ok (.bipush 6, 2) := by decide +kernel
theorem dXM_leave_12 : decode cXM_leave 12 = .ok (.iload_n 1, 1) := by decide +kernel
theorem dXM_leave_13 : decode cXM_leave 13 = .ok (.imul, 1) := by decide +kernel
theorem dXM_leave_14 : decode cXM_leave 14 = .ok (.iload_n 2, 1) := by decide +kernel
theorem dXM_leave_15 : decode cXM_leave 15 = .ok (.iadd, 1) := by decide +kernel
theorem dXM_leave_16 : decode cXM_leave 16 = .ok (.istore_n 3, 1) := by decide +kernel
theorem dXM_leave_17 : decode cXM_leave 17 = .ok (.iload_n 3, 1) := by decide +kernel
theorem dXM_leave_18 : decode cXM_leave 18 = .ok (.bipush 6, 2) := by decide +kernel
theorem dXM_leave_20 : decode cXM_leave 20 = .ok (.iload_n 1, 1) := by decide +kernel
theorem dXM_leave_21 : decode cXM_leave 21 = .ok (.imul, 1) := by decide +kernel
theorem dXM_leave_22 : decode cXM_leave 22 = .ok (.aload_n 0, 1) := by decide +kernel
theorem dXM_leave_23 : decode cXM_leave 23 = .ok (.getfield 41, 3) := by decide +kernel
theorem dXM_leave_26 : decode cXM_leave 26 = .ok (.iload_n 1, 1) := by decide +kernel
theorem dXM_leave_27 : decode cXM_leave 27 = .ok (.iaload, 1) := by decide +kernel
theorem dXM_leave_28 : decode cXM_leave 28 = .ok (.iadd, 1) := by decide +kernel
theorem dXM_leave_29 : decode cXM_leave 29 = .ok (.if_icmp .ge 101, 3) := by decide +kernel
theorem dXM_leave_32 : decode cXM_leave 32 = .ok (.aload_n 0, 1) := by decide +kernel
theorem dXM_leave_33 : decode cXM_leave 33 = .ok (.getfield 44, 3) := by decide +kernel
theorem dXM_leave_36 : decode cXM_leave 36 = .ok (.iload_n 3, 1) := by decide +kernel
theorem dXM_leave_37 : decode cXM_leave 37 = .ok (.aload_n 0, 1) := by decide +kernel
theorem dXM_leave_38 : decode cXM_leave 38 = .ok (.getfield 44, 3) := by decide +kernel
theorem dXM_leave_41 : decode cXM_leave 41 = .ok (.iload_n 3, 1) := by decide +kernel
theorem dXM_leave_42 : decode cXM_leave 42 = .ok (.iconst 1, 1) := by decide +kernel
theorem dXM_leave_43 : decode cXM_leave 43 = .ok (.iadd, 1) := by decide +kernel
theorem dXM_leave_44 : decode cXM_leave 44 = .ok (.laload, 1) := by decide +kernel
theorem dXM_leave_45 : decode cXM_leave 45 = .ok (.lastore, 1) := by decide +kernel
theorem dXM_leave_46 : decode cXM_leave 46 = .ok (.iconst 0, 1) := by decide +kernel
theorem dXM_leave_47 : decode cXM_leave 47 = .ok (.istore 4, 2) := by decide +kernel
theorem dXM_leave_49 : decode cXM_leave 49 = .ok (.iload 4, 2) := by decide +kernel
theorem dXM_leave_51 : decode cXM_leave 51 = .ok (.iconst 5, 1) := by decide +kernel
theorem dXM_leave_52 : decode cXM_leave 52 = .ok (.if_icmp .ge 33, 3) := by decide +kernel
theorem dXM_leave_55 : decode cXM_leave 55 = .ok (.aload_n 0, 1) := by decide +kernel
theorem dXM_leave_56 : decode cXM_leave 56 = .ok (.getfield 47, 3) := by decide +kernel
theorem dXM_leave_59 : decode cXM_leave 59 = .ok (.iconst 5, 1) := by decide +kernel
theorem dXM_leave_60 : decode cXM_leave 60 = .ok (.iload_n 3, 1) := by decide +kernel
theorem dXM_leave_61 : decode cXM_leave 61 = .ok (.imul, 1) := by decide +kernel
theorem dXM_leave_62 : decode cXM_leave 62 = .ok (.iload 4, 2) := by decide +kernel
theorem dXM_leave_64 : decode cXM_leave 64 = .ok (.iadd, 1) := by decide +kernel
theorem dXM_leave_65 : decode cXM_leave 65 = .ok (.aload_n 0, 1) := by decide +kernel
theorem dXM_leave_66 : decode cXM_leave 66 = .ok (.getfield 47, 3) := by decide +kernel
theorem dXM_leave_69 : decode cXM_leave 69 = .ok (.iconst 5, 1) := by decide +kernel
theorem dXM_leave_70 : decode cXM_leave 70 = .ok (.iload_n 3, 1) := by decide +kernel
theorem dXM_leave_71 : decode cXM_leave 71 = .ok (.imul, 1) := by decide +kernel
theorem dXM_leave_72 : decode cXM_leave 72 = .ok (.iconst 5, 1) := by decide +kernel
theorem dXM_leave_73 : decode cXM_leave 73 = .ok (.iadd, 1) := by decide +kernel
theorem dXM_leave_74 : decode cXM_leave 74 = .ok (.iload 4, 2) := by decide +kernel
theorem dXM_leave_76 : decode cXM_leave 76 = .ok (.iadd, 1) := by decide +kernel
theorem dXM_leave_77 : decode cXM_leave 77 = .ok (.iaload, 1) := by decide +kernel
theorem dXM_leave_78 : decode cXM_leave 78 = .ok (.iastore, 1) := by decide +kernel
theorem dXM_leave_79 : decode cXM_leave 79 = .ok (.iinc 4 1, 3) := by decide +kernel
theorem dXM_leave_82 : decode cXM_leave 82 = .ok (.goto (-33), 3) := by decide +kernel
theorem dXM_leave_85 : decode cXM_leave 85 = .ok (.iconst 0, 1) := by decide +kernel
theorem dXM_leave_86 : decode cXM_leave 86 = .ok (.istore 4, 2) := by decide +kernel
theorem dXM_leave_88 : decode cXM_leave 88 = .ok (.iload 4, 2) := by decide +kernel
theorem dXM_leave_90 : decode cXM_leave 90 = .ok (.iconst 4, 1) := by decide +kernel
theorem dXM_leave_91 : decode cXM_leave 91 = .ok (.if_icmp .ge 33, 3) := by decide +kernel
theorem dXM_leave_94 : decode cXM_leave 94 = .ok (.aload_n 0, 1) := by decide +kernel
theorem dXM_leave_95 : decode cXM_leave 95 = .ok (.getfield 50, 3) := by decide +kernel
theorem dXM_leave_98 : decode cXM_leave 98 = .ok (.iconst 4, 1) := by decide +kernel
theorem dXM_leave_99 : decode cXM_leave 99 = .ok (.iload_n 3, 1) := by decide +kernel
theorem dXM_leave_100 : decode cXM_leave 100 = .ok (.imul, 1) := by decide +kernel
theorem dXM_leave_101 : decode cXM_leave 101 = .ok (.iload 4, 2) := by decide +kernel
theorem dXM_leave_103 : decode cXM_leave 103 = .ok (.iadd, 1) := by decide +kernel
theorem dXM_leave_104 : decode cXM_leave 104 = .ok (.aload_n 0, 1) := by decide +kernel
theorem dXM_leave_105 : decode cXM_leave 105 = .ok (.getfield 50, 3) := by decide +kernel
theorem dXM_leave_108 : decode cXM_leave 108 = .ok (.iconst 4, 1) := by decide +kernel
theorem dXM_leave_109 : decode cXM_leave 109 = .ok (.iload_n 3, 1) := by decide +kernel
theorem dXM_leave_110 : decode cXM_leave 110 = .ok (.imul, 1) := by decide +kernel
theorem dXM_leave_111 : decode cXM_leave 111 = .ok (.iconst 4, 1) := by decide +kernel
theorem dXM_leave_112 : decode cXM_leave 112 = .ok (.iadd, 1) := by decide +kernel
theorem dXM_leave_113 : decode cXM_leave 113 = .ok (.iload 4, 2) := by decide +kernel
theorem dXM_leave_115 : decode cXM_leave 115 = .ok (.iadd, 1) := by decide +kernel
theorem dXM_leave_116 : decode cXM_leave 116 = .ok (.laload, 1) := by decide +kernel
theorem dXM_leave_117 : decode cXM_leave 117 = .ok (.lastore, 1) := by decide +kernel
theorem dXM_leave_118 : decode cXM_leave 118 = .ok (.iinc 4 1, 3) := by decide +kernel
theorem dXM_leave_121 : decode cXM_leave 121 = .ok (.goto (-33), 3) := by decide +kernel
theorem dXM_leave_124 : decode cXM_leave 124 = .ok (.iinc 3 1, 3) := by decide +kernel
theorem dXM_leave_127 : decode cXM_leave 127 = .ok (.goto (-110), 3) := by decide +kernel
theorem dXM_leave_130 : decode cXM_leave 130 = .ok (.return_, 1) := by decide +kernel
abbrev cXM_waitAt : ByteArray := prog_10_method_14_code
def yXM_waitAt : MethodName := ⟨RXM, "waitAt", "(I)V"⟩
set_option maxRecDepth 100000 in
theorem qXM_waitAt : Cond.code yXM_waitAt cXM_waitAt 5 none ∈ lg_tbl := fx_c 748 rfl
theorem hdXM_waitAt : yXM_waitAt.cls = RXM ∧ yXM_waitAt.cls ≠ "java/lang/invoke/MethodHandle" ∧ yXM_waitAt.cls ≠ "java/lang/invoke/VarHandle" ∧ (parseMethodDescriptor yXM_waitAt.desc).map (fun d => d.parameters.length) = some 1 := by decide +kernel
theorem dXM_waitAt_0 : decode cXM_waitAt 0 = .ok (.iconst 0, 1) := by decide +kernel
theorem dXM_waitAt_1 : decode cXM_waitAt 1 = .ok (.istore_n 2, 1) := by decide +kernel
theorem dXM_waitAt_2 : decode cXM_waitAt 2 = .ok (.iconst 0, 1) := by decide +kernel
theorem dXM_waitAt_3 : decode cXM_waitAt 3 = .ok (.istore_n 3, 1) := by decide +kernel
theorem dXM_waitAt_4 : decode cXM_waitAt 4 = .ok (.iload_n 3, 1) := by decide +kernel
theorem dXM_waitAt_5 : decode cXM_waitAt 5 = .ok (.aload_n 0, 1) := by decide +kernel
theorem dXM_waitAt_6 : decode cXM_waitAt 6 = .ok (.getfield 41, 3) := by decide +kernel
theorem dXM_waitAt_9 : decode cXM_waitAt 9 = .ok (.iload_n 1, 1) := by decide +kernel
theorem dXM_waitAt_10 : decode cXM_waitAt 10 = .ok (.iaload, 1) := by decide +kernel
theorem dXM_waitAt_11 : decode cXM_waitAt 11 = .ok (.if_icmp .ge 38, 3) := by decide +kernel
theorem dXM_waitAt_14 : decode cXM_waitAt 14 = .ok (.iload_n 2, 1) := by decide +kernel
theorem dXM_waitAt_15 : decode cXM_waitAt 15 = .ok (.ifCond .ne 22, 3) := by decide +kernel
theorem dXM_waitAt_18 : decode cXM_waitAt 18 = .ok (.aload_n 0, 1) := by decide +kernel
theorem dXM_waitAt_19 : decode cXM_waitAt 19 = .ok (.getfield 44, 3) := by decide +kernel
theorem dXM_waitAt_22 : decode cXM_waitAt 22 = .ok (.bipush 6, 2) := by decide +kernel
theorem dXM_waitAt_24 : decode cXM_waitAt 24 = .ok (.iload_n 1, 1) := by decide +kernel
theorem dXM_waitAt_25 : decode cXM_waitAt 25 = .ok (.imul, 1) := by decide +kernel
theorem dXM_waitAt_26 : decode cXM_waitAt 26 = .ok (.iload_n 3, 1) := by decide +kernel
theorem dXM_waitAt_27 : decode cXM_waitAt 27 = .ok (.iadd, 1) := by decide +kernel
theorem dXM_waitAt_28 : decode cXM_waitAt 28 = .ok (.laload, 1) := by decide +kernel
theorem dXM_waitAt_29 : decode cXM_waitAt 29 = .ok (.aload_n 0, 1) := by decide +kernel
theorem dXM_waitAt_30 : decode cXM_waitAt 30 = .ok (.getfield 80, 3) := by decide +kernel
theorem dXM_waitAt_33 : decode cXM_waitAt 33 = .ok (.lcmp, 1) := by decide +kernel
theorem dXM_waitAt_34 : decode cXM_waitAt 34 = .ok (.ifCond .ne 7, 3) := by decide +kernel
theorem dXM_waitAt_37 : decode cXM_waitAt 37 = .ok (.iconst 1, 1) := by decide +kernel
theorem dXM_waitAt_38 : decode cXM_waitAt 38 = .ok (.goto 4, 3) := by decide +kernel
theorem dXM_waitAt_41 : decode cXM_waitAt 41 = .ok (.iconst 0, 1) := by decide +kernel
theorem dXM_waitAt_42 : decode cXM_waitAt 42 = .ok (.istore_n 2, 1) := by decide +kernel
theorem dXM_waitAt_43 : decode cXM_waitAt 43 = .ok (.iinc 3 1, 3) := by decide +kernel
theorem dXM_waitAt_46 : decode cXM_waitAt 46 = .ok (.goto (-42), 3) := by decide +kernel
theorem dXM_waitAt_49 : decode cXM_waitAt 49 = .ok (.iload_n 2, 1) := by decide +kernel
theorem dXM_waitAt_50 : decode cXM_waitAt 50 = .ok (.ifCond .eq 4, 3) := by decide +kernel
theorem dXM_waitAt_53 : decode cXM_waitAt 53 = .ok (.return_, 1) := by decide +kernel
theorem dXM_waitAt_54 : decode cXM_waitAt 54 = .ok (.bipush 6, 2) := by decide +kernel
theorem dXM_waitAt_56 : decode cXM_waitAt 56 = .ok (.iload_n 1, 1) := by decide +kernel
theorem dXM_waitAt_57 : decode cXM_waitAt 57 = .ok (.imul, 1) := by decide +kernel
theorem dXM_waitAt_58 : decode cXM_waitAt 58 = .ok (.aload_n 0, 1) := by decide +kernel
theorem dXM_waitAt_59 : decode cXM_waitAt 59 = .ok (.getfield 41, 3) := by decide +kernel
theorem dXM_waitAt_62 : decode cXM_waitAt 62 = .ok (.iload_n 1, 1) := by decide +kernel
theorem dXM_waitAt_63 : decode cXM_waitAt 63 = .ok (.iaload, 1) := by decide +kernel
theorem dXM_waitAt_64 : decode cXM_waitAt 64 = .ok (.iadd, 1) := by decide +kernel
theorem dXM_waitAt_65 : decode cXM_waitAt 65 = .ok (.istore_n 3, 1) := by decide +kernel
theorem dXM_waitAt_66 : decode cXM_waitAt 66 = .ok (.aload_n 0, 1) := by decide +kernel
theorem dXM_waitAt_67 : decode cXM_waitAt 67 = .ok (.getfield 44, 3) := by decide +kernel
theorem dXM_waitAt_70 : decode cXM_waitAt 70 = .ok (.iload_n 3, 1) := by decide +kernel
theorem dXM_waitAt_71 : decode cXM_waitAt 71 = .ok (.aload_n 0, 1) := by decide +kernel
theorem dXM_waitAt_72 : decode cXM_waitAt 72 = .ok (.getfield 80, 3) := by decide +kernel
theorem dXM_waitAt_75 : decode cXM_waitAt 75 = .ok (.lastore, 1) := by decide +kernel
theorem dXM_waitAt_76 : decode cXM_waitAt 76 = .ok (.iconst 0, 1) := by decide +kernel
theorem dXM_waitAt_77 : decode cXM_waitAt 77 = .ok (.istore 4, 2) := by decide +kernel
theorem dXM_waitAt_79 : decode cXM_waitAt 79 = .ok (.iload 4, 2) := by decide +kernel
theorem dXM_waitAt_81 : decode cXM_waitAt 81 = .ok (.iconst 5, 1) := by decide +kernel
theorem dXM_waitAt_82 : decode cXM_waitAt 82 = .ok (.if_icmp .ge 27, 3) := by decide +kernel
theorem dXM_waitAt_85 : decode cXM_waitAt 85 = .ok (.aload_n 0, 1) := by decide +kernel
theorem dXM_waitAt_86 : decode cXM_waitAt 86 = .ok (.getfield 47, 3) := by decide +kernel
theorem dXM_waitAt_89 : decode cXM_waitAt 89 = .ok (.iconst 5, 1) := by decide +kernel
theorem dXM_waitAt_90 : decode cXM_waitAt 90 = .ok (.iload_n 3, 1) := by decide +kernel
theorem dXM_waitAt_91 : decode cXM_waitAt 91 = .ok (.imul, 1) := by decide +kernel
theorem dXM_waitAt_92 : decode cXM_waitAt 92 = .ok (.iload 4, 2) := by decide +kernel
theorem dXM_waitAt_94 : decode cXM_waitAt 94 = .ok (.iadd, 1) := by decide +kernel
theorem dXM_waitAt_95 : decode cXM_waitAt 95 = .ok (.aload_n 0, 1) := by decide +kernel
theorem dXM_waitAt_96 : decode cXM_waitAt 96 = .ok (.getfield 59, 3) := by decide +kernel
theorem dXM_waitAt_99 : decode cXM_waitAt 99 = .ok (.iload 4, 2) := by decide +kernel
theorem dXM_waitAt_101 : decode cXM_waitAt 101 = .ok (.iaload, 1) := by decide +kernel
theorem dXM_waitAt_102 : decode cXM_waitAt 102 = .ok (.iastore, 1) := by decide +kernel
theorem dXM_waitAt_103 : decode cXM_waitAt 103 = .ok (.iinc 4 1, 3) := by decide +kernel
theorem dXM_waitAt_106 : decode cXM_waitAt 106 = .ok (.goto (-27), 3) := by decide +kernel
theorem dXM_waitAt_109 : decode cXM_waitAt 109 = .ok (.iconst 0, 1) := by decide +kernel
theorem dXM_waitAt_110 : decode cXM_waitAt 110 = .ok (.istore 4, 2) := by decide +kernel
theorem dXM_waitAt_112 : decode cXM_waitAt 112 = .ok (.iload 4, 2) := by decide +kernel
theorem dXM_waitAt_114 : decode cXM_waitAt 114 = .ok (.iconst 4, 1) := by decide +kernel
theorem dXM_waitAt_115 : decode cXM_waitAt 115 = .ok (.if_icmp .ge 27, 3) := by decide +kernel
theorem dXM_waitAt_118 : decode cXM_waitAt 118 = .ok (.aload_n 0, 1) := by decide +kernel
theorem dXM_waitAt_119 : decode cXM_waitAt 119 = .ok (.getfield 50, 3) := by decide +kernel
theorem dXM_waitAt_122 : decode cXM_waitAt 122 = .ok (.iconst 4, 1) := by decide +kernel
theorem dXM_waitAt_123 : decode cXM_waitAt 123 = .ok (.iload_n 3, 1) := by decide +kernel
theorem dXM_waitAt_124 : decode cXM_waitAt 124 = .ok (.imul, 1) := by decide +kernel
theorem dXM_waitAt_125 : decode cXM_waitAt 125 = .ok (.iload 4, 2) := by decide +kernel
theorem dXM_waitAt_127 : decode cXM_waitAt 127 = .ok (.iadd, 1) := by decide +kernel
theorem dXM_waitAt_128 : decode cXM_waitAt 128 = .ok (.aload_n 0, 1) := by decide +kernel
theorem dXM_waitAt_129 : decode cXM_waitAt 129 = .ok (.getfield 62, 3) := by decide +kernel
theorem dXM_waitAt_132 : decode cXM_waitAt 132 = .ok (.iload 4, 2) := by decide +kernel
theorem dXM_waitAt_134 : decode cXM_waitAt 134 = .ok (.laload, 1) := by decide +kernel
theorem dXM_waitAt_135 : decode cXM_waitAt 135 = .ok (.lastore, 1) := by decide +kernel
theorem dXM_waitAt_136 : decode cXM_waitAt 136 = .ok (.iinc 4 1, 3) := by decide +kernel
theorem dXM_waitAt_139 : decode cXM_waitAt 139 = .ok (.goto (-27), 3) := by decide +kernel
theorem dXM_waitAt_142 : decode cXM_waitAt 142 = .ok (.aload_n 0, 1) := by decide +kernel
theorem dXM_waitAt_143 : decode cXM_waitAt 143 = .ok (.getfield 41, 3) := by decide +kernel
theorem dXM_waitAt_146 : decode cXM_waitAt 146 = .ok (.iload_n 1, 1) := by decide +kernel
theorem dXM_waitAt_147 : decode cXM_waitAt 147 = .ok (.dup2, 1) := by decide +kernel
theorem dXM_waitAt_148 : decode cXM_waitAt 148 = .ok (.iaload, 1) := by decide +kernel
theorem dXM_waitAt_149 : decode cXM_waitAt 149 = .ok (.iconst 1, 1) := by decide +kernel
theorem dXM_waitAt_150 : decode cXM_waitAt 150 = .ok (.iadd, 1) := by decide +kernel
theorem dXM_waitAt_151 : decode cXM_waitAt 151 = .ok (.iastore, 1) := by decide +kernel
theorem dXM_waitAt_152 : decode cXM_waitAt 152 = .ok (.aload_n 0, 1) := by decide +kernel
theorem dXM_waitAt_153 : decode cXM_waitAt 153 = .ok (.getfield 41, 3) := by decide +kernel
theorem dXM_waitAt_156 : decode cXM_waitAt 156 = .ok (.iload_n 1, 1) := by decide +kernel
theorem dXM_waitAt_157 : decode cXM_waitAt 157 = .ok (.iaload, 1) := by decide +kernel
theorem dXM_waitAt_158 : decode cXM_waitAt 158 = .ok (.bipush 6, 2) := by decide +kernel
theorem dXM_waitAt_160 : decode cXM_waitAt 160 = .ok (.if_icmp .ne 9, 3) := by decide +kernel
theorem dXM_waitAt_163 : decode cXM_waitAt 163 = .ok (.aload_n 0, 1) := by decide +kernel
theorem dXM_waitAt_164 : decode cXM_waitAt 164 = .ok (.iload_n 1, 1) := by decide +kernel
theorem dXM_waitAt_165 : decode cXM_waitAt 165 = .ok (.iconst 0, 1) := by decide +kernel
theorem dXM_waitAt_166 : decode cXM_waitAt 166 = .ok (.invokevirtual 100, 3) := by decide +kernel
theorem dXM_waitAt_169 : decode cXM_waitAt 169 = .ok (.return_, 1) := by decide +kernel
