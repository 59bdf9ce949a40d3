abbrev cXM_held : ByteArray := prog_10_method_34_code
def yXM_held : MethodName := ⟨RXM, "held", "(I)I"⟩
set_option maxRecDepth 100000 in
theorem qXM_held : Cond.code yXM_held cXM_held 2 (some .int) ∈ lg_tbl := fx_c 809 rfl
theorem hdXM_held : yXM_held.cls = RXM ∧ yXM_held.cls ≠ "java/lang/invoke/MethodHandle" ∧ yXM_held.cls ≠ "java/lang/invoke/VarHandle" ∧ (parseMethodDescriptor yXM_held.desc).map (fun d => d.parameters.length) = some 1 := by decide +kernel
theorem dXM_held_0 : decode cXM_held 0 = .ok (.iload_n 1, 1) := by decide +kernel
theorem dXM_held_1 : decode cXM_held 1 = .ok (.invokestatic 132, 3) := by decide +kernel
theorem dXM_held_4 : decode cXM_held 4 = .ok (.ifCond .eq 15, 3) := by decide +kernel
theorem dXM_held_7 : decode cXM_held 7 = .ok (.aload_n 0, 1) := by decide +kernel
theorem dXM_held_8 : decode cXM_held 8 = .ok (.getfield 38, 3) := by decide +kernel
theorem dXM_held_11 : decode cXM_held 11 = .ok (.iload_n 1, 1) := by decide +kernel
theorem dXM_held_12 : decode cXM_held 12 = .ok (.laload, 1) := by decide +kernel
theorem dXM_held_13 : decode cXM_held 13 = .ok (.invokestatic 173, 3) := by decide +kernel
theorem dXM_held_16 : decode cXM_held 16 = .ok (.goto 4, 3) := by decide +kernel
theorem dXM_held_19 : decode cXM_held 19 = .ok (.iconst (-1), 1) := by decide +kernel
theorem dXM_held_20 : decode cXM_held 20 = .ok (.ireturn, 1) := by decide +kernel
abbrev cXM_waiting : ByteArray := prog_10_method_35_code
def yXM_waiting : MethodName := ⟨RXM, "waiting", "(I)I"⟩
set_option maxRecDepth 100000 in
theorem qXM_waiting : Cond.code yXM_waiting cXM_waiting 2 (some .int) ∈ lg_tbl := fx_c 816 rfl
theorem hdXM_waiting : yXM_waiting.cls = RXM ∧ yXM_waiting.cls ≠ "java/lang/invoke/MethodHandle" ∧ yXM_waiting.cls ≠ "java/lang/invoke/VarHandle" ∧ (parseMethodDescriptor yXM_waiting.desc).map (fun d => d.parameters.length) = some 1 := by decide +kernel
theorem dXM_waiting_0 : decode cXM_waiting 0 = .ok (.iload_n 1, 1) := by decide +kernel
theorem dXM_waiting_1 : decode cXM_waiting 1 = .ok (.invokestatic 132, 3) := by decide +kernel
theorem dXM_waiting_4 : decode cXM_waiting 4 = .ok (.ifCond .eq 12, 3) := by decide +kernel
theorem dXM_waiting_7 : decode cXM_waiting 7 = .ok (.aload_n 0, 1) := by decide +kernel
theorem dXM_waiting_8 : decode cXM_waiting 8 = .ok (.getfield 41, 3) := by decide +kernel
theorem dXM_waiting_11 : decode cXM_waiting 11 = .ok (.iload_n 1, 1) := by decide +kernel
theorem dXM_waiting_12 : decode cXM_waiting 12 = .ok (.iaload, 1) := by decide +kernel
theorem dXM_waiting_13 : decode cXM_waiting 13 = .ok (.goto 4, 3) := by decide +kernel
theorem dXM_waiting_16 : decode cXM_waiting 16 = .ok (.iconst (-1), 1) := by decide +kernel
theorem dXM_waiting_17 : decode cXM_waiting 17 = .ok (.ireturn, 1) := by decide +kernel
abbrev cXM_has : ByteArray := prog_10_method_36_code
def yXM_has : MethodName := ⟨RXM, "has", "(IJ)Z"⟩
set_option maxRecDepth 100000 in
theorem qXM_has : Cond.code yXM_has cXM_has 4 (some .boolean) ∈ lg_tbl := fx_c 820 rfl
theorem hdXM_has : yXM_has.cls = RXM ∧ yXM_has.cls ≠ "java/lang/invoke/MethodHandle" ∧ yXM_has.cls ≠ "java/lang/invoke/VarHandle" ∧ (parseMethodDescriptor yXM_has.desc).map (fun d => d.parameters.length) = some 2 := by decide +kernel
theorem dXM_has_0 : decode cXM_has 0 = .ok (.iload_n 1, 1) := by decide +kernel
theorem dXM_has_1 : decode cXM_has 1 = .ok (.invokestatic 132, 3) := by decide +kernel
theorem dXM_has_4 : decode cXM_has 4 = .ok (.ifCond .eq 24, 3) := by decide +kernel
theorem dXM_has_7 : decode cXM_has 7 = .ok (.aload_n 0, 1) := by decide +kernel
theorem dXM_has_8 : decode cXM_has 8 = .ok (.getfield 38, 3) := by decide +kernel
theorem dXM_has_11 : decode cXM_has 11 = .ok (.iload_n 1, 1) := by decide +kernel
theorem dXM_has_12 : decode cXM_has 12 = .ok (.laload, 1) := by decide +kernel
theorem dXM_has_13 : decode cXM_has 13 = .ok (.aload_n 0, 1) := by decide +kernel
theorem dXM_has_14 : decode cXM_has 14 = .ok (.lload_n 2, 1) := by decide +kernel
theorem dXM_has_15 : decode cXM_has 15 = .ok (.invokevirtual 84, 3) := by decide +kernel
theorem dXM_has_18 : decode cXM_has 18 = .ok (.invokestatic 88, 3) := by decide +kernel
theorem dXM_has_21 : decode cXM_has 21 = .ok (.ifCond .eq 7, 3) := by decide +kernel
theorem dXM_has_24 : decode cXM_has 24 = .ok (.iconst 1, 1) := by decide +kernel
theorem dXM_has_25 : decode cXM_has 25 = .ok (.goto 4, 3) := by decide +kernel
theorem dXM_has_28 : decode cXM_has 28 = .ok (.iconst 0, 1) := by decide +kernel
theorem dXM_has_29 : decode cXM_has 29 = .ok (.ireturn, 1) := by decide +kernel
abbrev cXM_hashAt : ByteArray := prog_10_method_37_code
def yXM_hashAt : MethodName := ⟨RXM, "hashAt", "(II)J"⟩
set_option maxRecDepth 100000 in
theorem qXM_hashAt : Cond.code yXM_hashAt cXM_hashAt 4 (some .long) ∈ lg_tbl := fx_c 824 rfl
theorem hdXM_hashAt : yXM_hashAt.cls = RXM ∧ yXM_hashAt.cls ≠ "java/lang/invoke/MethodHandle" ∧ yXM_hashAt.cls ≠ "java/lang/invoke/VarHandle" ∧ (parseMethodDescriptor yXM_hashAt.desc).map (fun d => d.parameters.length) = some 2 := by decide +kernel
theorem dXM_hashAt_0 : decode cXM_hashAt 0 = .ok (.aload_n 0, 1) := by decide +kernel
theorem dXM_hashAt_1 : decode cXM_hashAt 1 = .ok (.iload_n 1, 1) := by decide +kernel
theorem dXM_hashAt_2 : decode cXM_hashAt 2 = .ok (.iload_n 2, 1) := by decide +kernel
theorem dXM_hashAt_3 : decode cXM_hashAt 3 = .ok (.invokevirtual 176, 3) := by decide +kernel
theorem dXM_hashAt_6 : decode cXM_hashAt 6 = .ok (.istore_n 3, 1) := by decide +kernel
theorem dXM_hashAt_7 : decode cXM_hashAt 7 = .ok (.iload_n 3, 1) := by decide +kernel
theorem dXM_hashAt_8 : decode cXM_hashAt 8 = .ok (.ifCond .ge 7, 3) := by decide +kernel
theorem dXM_hashAt_11 : decode cXM_hashAt 11 = .ok (.lconst 0, 1) := by decide +kernel
theorem dXM_hashAt_12 : decode cXM_hashAt 12 = .ok (.goto 9, 3) := by decide +kernel
theorem dXM_hashAt_15 : decode cXM_hashAt 15 = .ok (.aload_n 0, 1) := by decide +kernel
theorem dXM_hashAt_16 : decode cXM_hashAt 16 = .ok (.getfield 7, 3) := by decide +kernel
theorem dXM_hashAt_19 : decode cXM_hashAt 19 = .ok (.iload_n 3, 1) := by decide +kernel
theorem dXM_hashAt_20 : decode cXM_hashAt 20 = .ok (.laload, 1) := by decide +kernel
theorem dXM_hashAt_21 : decode cXM_hashAt 21 = .ok (.lreturn, 1) := by decide +kernel
abbrev cXM_about : ByteArray := prog_10_method_38_code
def yXM_about : MethodName := ⟨RXM, "about", "(III)I"⟩
set_option maxRecDepth 100000 in
theorem qXM_about : Cond.code yXM_about cXM_about 5 (some .int) ∈ lg_tbl := fx_c 832 rfl
theorem hdXM_about : yXM_about.cls = RXM ∧ yXM_about.cls ≠ "java/lang/invoke/MethodHandle" ∧ yXM_about.cls ≠ "java/lang/invoke/VarHandle" ∧ (parseMethodDescriptor yXM_about.desc).map (fun d => d.parameters.length) = some 3 := by decide +kernel
theorem dXM_about_0 : decode cXM_about 0 = .ok (.aload_n 0, 1) := by decide +kernel
theorem dXM_about_1 : decode cXM_about 1 = .ok (.iload_n 1, 1) := by decide +kernel
theorem dXM_about_2 : decode cXM_about 2 = .ok (.iload_n 2, 1) := by decide +kernel
theorem dXM_about_3 : decode cXM_about 3 = .ok (.invokevirtual 176, 3) := by decide +kernel
theorem dXM_about_6 : decode cXM_about 6 = .ok (.istore 4, 2) := by decide +kernel
theorem dXM_about_8 : decode cXM_about 8 = .ok (.iload 4, 2) := by decide +kernel
theorem dXM_about_10 : decode cXM_about 10 = .ok (.ifCond .lt 12, 3) := by decide +kernel
theorem dXM_about_13 : decode cXM_about 13 = .ok (.iload_n 3, 1) := by decide +kernel
theorem dXM_about_14 : decode cXM_about 14 = .ok (.ifCond .lt 8, 3) := by decide +kernel
theorem dXM_about_17 : decode cXM_about 17 = .ok (.iload_n 3, 1) := by decide +kernel
theorem dXM_about_18 : decode cXM_about 18 = .ok (.iconst 5, 1) := by decide +kernel
theorem dXM_about_19 : decode cXM_about 19 = .ok (.if_icmp .le 5, 3) := by decide +kernel
theorem dXM_about_22 : decode cXM_about 22 = .ok (.iconst (-1), 1) := by decide +kernel
theorem dXM_about_23 : decode cXM_about 23 = .ok (.ireturn, 1) := by decide +kernel
theorem dXM_about_24 : decode cXM_about 24 = .ok (.iload_n 3, 1) := by decide +kernel
theorem dXM_about_25 : decode cXM_about 25 = .ok (.iconst 2, 1) := by decide +kernel
theorem dXM_about_26 : decode cXM_about 26 = .ok (.if_icmp .ge 25, 3) := by decide +kernel
theorem dXM_about_29 : decode cXM_about 29 = .ok (.iload_n 3, 1) := by decide +kernel
theorem dXM_about_30 : decode cXM_about 30 = .ok (.ifCond .ne 13, 3) := by decide +kernel
theorem dXM_about_33 : decode cXM_about 33 = .ok (.aload_n 0, 1) := by decide +kernel
theorem dXM_about_34 : decode cXM_about 34 = .ok (.getfield 13, 3) := by decide +kernel
theorem dXM_about_37 : decode cXM_about 37 = .ok (.iload 4, 2) := by decide +kernel
theorem dXM_about_39 : decode cXM_about 39 = .ok (.iaload, 1) := by decide +kernel
theorem dXM_about_40 : decode cXM_about 40 = .ok (.goto 10, 3) := by decide +kernel
theorem dXM_about_43 : decode cXM_about 43 = .ok (.aload_n 0, 1) := by decide +kernel
theorem dXM_about_44 : decode cXM_about 44 = .ok (.getfield 17, 3) := by decide +kernel
theorem dXM_about_47 : decode cXM_about 47 = .ok (.iload 4, 2) := by decide +kernel
theorem dXM_about_49 : decode cXM_about 49 = .ok (.iaload, 1) := by decide +kernel
theorem dXM_about_50 : decode cXM_about 50 = .ok (.ireturn, 1) := by decide +kernel
theorem dXM_about_51 : decode cXM_about 51 = .ok (.iload_n 3, 1) := by decide +kernel
theorem dXM_about_52 : decode cXM_about 52 = .ok (.iconst 4, 1) := by decide +kernel
theorem dXM_about_53 : decode cXM_about 53 = .ok (.if_icmp .ge 26, 3) := by decide +kernel
theorem dXM_about_56 : decode cXM_about 56 = .ok (.iload_n 3, 1) := by decide +kernel
theorem dXM_about_57 : decode cXM_about 57 = .ok (.iconst 2, 1) := by decide +kernel
theorem dXM_about_58 : decode cXM_about 58 = .ok (.if_icmp .ne 13, 3) := by decide +kernel
theorem dXM_about_61 : decode cXM_about 61 = .ok (.aload_n 0, 1) := by decide +kernel
theorem dXM_about_62 : decode cXM_about 62 = .ok (.getfield 20, 3) := by decide +kernel
theorem dXM_about_65 : decode cXM_about 65 = .ok (.iload 4, 2) := by decide +kernel
theorem dXM_about_67 : decode cXM_about 67 = .ok (.iaload, 1) := by decide +kernel
theorem dXM_about_68 : decode cXM_about 68 = .ok (.goto 10, 3) := by decide +kernel
theorem dXM_about_71 : decode cXM_about 71 = .ok (.aload_n 0, 1) := by decide +kernel
theorem dXM_about_72 : decode cXM_about 72 = .ok (.getfield 23, 3) := by decide +kernel
theorem dXM_about_75 : decode cXM_about 75 = .ok (.iload 4, 2) := by decide +kernel
theorem dXM_about_77 : decode cXM_about 77 = .ok (.iaload, 1) := by decide +kernel
theorem dXM_about_78 : decode cXM_about 78 = .ok (.ireturn, 1) := by decide +kernel
theorem dXM_about_79 : decode cXM_about 79 = .ok (.iload_n 3, 1) := by decide +kernel
theorem dXM_about_80 : decode cXM_about 80 = .ok (.iconst 4, 1) := by decide +kernel
theorem dXM_about_81 : decode cXM_about 81 = .ok (.if_icmp .ne 13, 3) := by decide +kernel
theorem dXM_about_84 : decode cXM_about 84 = .ok (.aload_n 0, 1) := by decide +kernel
theorem dXM_about_85 : decode cXM_about 85 = .ok (.getfield 26, 3) := by decide +kernel
theorem dXM_about_88 : decode cXM_about 88 = .ok (.iload 4, 2) := by decide +kernel
theorem dXM_about_90 : decode cXM_about 90 = .ok (.iaload, 1) := by decide +kernel
theorem dXM_about_91 : decode cXM_about 91 = .ok (.goto 10, 3) := by decide +kernel
theorem dXM_about_94 : decode cXM_about 94 = .ok (.aload_n 0, 1) := by decide +kernel
theorem dXM_about_95 : decode cXM_about 95 = .ok (.getfield 35, 3) := by decide +kernel
theorem dXM_about_98 : decode cXM_about 98 = .ok (.iload 4, 2) := by decide +kernel
theorem dXM_about_100 : decode cXM_about 100 = .ok (.iaload, 1) := by decide +kernel
theorem dXM_about_101 : decode cXM_about 101 = .ok (.ireturn, 1) := by decide +kernel
abbrev cXM_linkAt : ByteArray := prog_10_method_39_code
def yXM_linkAt : MethodName := ⟨RXM, "linkAt", "(III)J"⟩
set_option maxRecDepth 100000 in
theorem qXM_linkAt : Cond.code yXM_linkAt cXM_linkAt 5 (some .long) ∈ lg_tbl := fx_c 836 rfl
theorem hdXM_linkAt : yXM_linkAt.cls = RXM ∧ yXM_linkAt.cls ≠ "java/lang/invoke/MethodHandle" ∧ yXM_linkAt.cls ≠ "java/lang/invoke/VarHandle" ∧ (parseMethodDescriptor yXM_linkAt.desc).map (fun d => d.parameters.length) = some 3 := by decide +kernel
theorem dXM_linkAt_0 : decode cXM_linkAt 0 = .ok (.aload_n 0, 1) := by decide +kernel
theorem dXM_linkAt_1 : decode cXM_linkAt 1 = .ok (.iload_n 1, 1) := by decide +kernel
theorem dXM_linkAt_2 : decode cXM_linkAt 2 = .ok (.iload_n 2, 1) := by decide +kernel
theorem dXM_linkAt_3 : decode cXM_linkAt 3 = .ok (.invokevirtual 176, 3) := by decide +kernel
theorem dXM_linkAt_6 : decode cXM_linkAt 6 = .ok (.istore 4, 2) := by decide +kernel
theorem dXM_linkAt_8 : decode cXM_linkAt 8 = .ok (.iload 4, 2) := by decide +kernel
theorem dXM_linkAt_10 : decode cXM_linkAt 10 = .ok (.ifCond .lt 18, 3) := by decide +kernel
theorem dXM_linkAt_13 : decode cXM_linkAt 13 = .ok (.iload_n 3, 1) := by decide +kernel
theorem dXM_linkAt_14 : decode cXM_linkAt 14 = .ok (.ifCond .lt 14, 3) := by decide +kernel
theorem dXM_linkAt_17 : decode cXM_linkAt 17 = .ok (.iload_n 3, 1) := by decide +kernel
theorem dXM_linkAt_18 : decode cXM_linkAt 18 = .ok (.aload_n 0, 1) := by decide +kernel
theorem dXM_linkAt_19 : decode cXM_linkAt 19 = .ok (.getfield 26, 3) := by decide +kernel
theorem dXM_linkAt_22 : decode cXM_linkAt 22 = .ok (.iload 4, 2) := by decide +kernel
theorem dXM_linkAt_24 : decode cXM_linkAt 24 = .ok (.iaload, 1) := by decide +kernel
theorem dXM_linkAt_25 : decode cXM_linkAt 25 = .ok (.if_icmp .lt 7, 3) := by decide +kernel
theorem dXM_linkAt_28 : decode cXM_linkAt 28 = .ok (.lconst 0, 1) := by decide +kernel
theorem dXM_linkAt_29 : decode cXM_linkAt 29 = .ok (.goto 14, 3) := by decide +kernel
theorem dXM_linkAt_32 : decode cXM_linkAt 32 = .ok (.aload_n 0, 1) := by decide +kernel
theorem dXM_linkAt_33 : decode cXM_linkAt 33 = .ok (.getfield 29, 3) := by decide +kernel
theorem dXM_linkAt_36 : decode cXM_linkAt 36 = .ok (.iconst 4, 1) := by decide +kernel
theorem dXM_linkAt_37 : decode cXM_linkAt 37 = .ok (.iload 4, 2) := by decide +kernel
theorem dXM_linkAt_39 : decode cXM_linkAt 39 = .ok (.imul, 1) := by decide +kernel
theorem dXM_linkAt_40 : decode cXM_linkAt 40 = .ok (.iload_n 3, 1) := by decide +kernel
theorem dXM_linkAt_41 : decode cXM_linkAt 41 = .ok (.iadd, 1) := by decide +kernel
theorem dXM_linkAt_42 : decode cXM_linkAt 42 = .ok (.laload, 1) := by decide +kernel
theorem dXM_linkAt_43 : decode cXM_linkAt 43 = .ok (.lreturn, 1) := by decide +kernel
abbrev cXM_heads : ByteArray := prog_10_method_40_code
def yXM_heads : MethodName := ⟨RXM, "heads", "(I)I"⟩
set_option maxRecDepth 100000 in
theorem qXM_heads : Cond.code yXM_heads cXM_heads 2 (some .int) ∈ lg_tbl := fx_c 840 rfl
theorem hdXM_heads : yXM_heads.cls = RXM ∧ yXM_heads.cls ≠ "java/lang/invoke/MethodHandle" ∧ yXM_heads.cls ≠ "java/lang/invoke/VarHandle" ∧ (parseMethodDescriptor yXM_heads.desc).map (fun d => d.parameters.length) = some 1 := by decide +kernel
theorem dXM_heads_0 : decode cXM_heads 0 = .ok (.iload_n 1, 1) := by decide +kernel
theorem dXM_heads_1 : decode cXM_heads 1 = .ok (.invokestatic 132, 3) := by decide +kernel
theorem dXM_heads_4 : decode cXM_heads 4 = .ok (.ifCond .eq 14, 3) := by decide +kernel
theorem dXM_heads_7 : decode cXM_heads 7 = .ok (.aload_n 0, 1) := by decide +kernel
theorem dXM_heads_8 : decode cXM_heads 8 = .ok (.iload_n 1, 1) := by decide +kernel
theorem dXM_heads_9 : decode cXM_heads 9 = .ok (.invokevirtual 157, 3) := by decide +kernel
theorem dXM_heads_12 : decode cXM_heads 12 = .ok (.invokestatic 173, 3) := by decide +kernel
theorem dXM_heads_15 : decode cXM_heads 15 = .ok (.goto 4, 3) := by decide +kernel
theorem dXM_heads_18 : decode cXM_heads 18 = .ok (.iconst (-1), 1) := by decide +kernel
theorem dXM_heads_19 : decode cXM_heads 19 = .ok (.ireturn, 1) := by decide +kernel
abbrev cXM_headAt : ByteArray := prog_10_method_41_code
def yXM_headAt : MethodName := ⟨RXM, "headAt", "(II)J"⟩
set_option maxRecDepth 100000 in
theorem qXM_headAt : Cond.code yXM_headAt cXM_headAt 3 (some .long) ∈ lg_tbl := fx_c 844 rfl
theorem hdXM_headAt : yXM_headAt.cls = RXM ∧ yXM_headAt.cls ≠ "java/lang/invoke/MethodHandle" ∧ yXM_headAt.cls ≠ "java/lang/invoke/VarHandle" ∧ (parseMethodDescriptor yXM_headAt.desc).map (fun d => d.parameters.length) = some 2 := by decide +kernel
theorem dXM_headAt_0 : decode cXM_headAt 0 = .ok (.iload_n 1, 1) := by decide +kernel
theorem dXM_headAt_1 : decode cXM_headAt 1 = .ok (.invokestatic 132, 3) := by decide +kernel
theorem dXM_headAt_4 : decode cXM_headAt 4 = .ok (.ifCond .ne 5, 3) := by decide +kernel
theorem dXM_headAt_7 : decode cXM_headAt 7 = .ok (.lconst 0, 1) := by decide +kernel
theorem dXM_headAt_8 : decode cXM_headAt 8 = .ok (.lreturn, 1) := by decide +kernel
theorem dXM_headAt_9 : decode cXM_headAt 9 = .ok (.aload_n 0, 1) := by decide +kernel
theorem dXM_headAt_10 : decode cXM_headAt 10 = .ok (.iload_n 1, 1) := by decide +kernel
theorem dXM_headAt_11 : decode cXM_headAt 11 = .ok (.invokevirtual 135, 3) := by decide +kernel
theorem dXM_headAt_14 : decode cXM_headAt 14 = .ok (.iload_n 2, 1) := by decide +kernel
theorem dXM_headAt_15 : decode cXM_headAt 15 = .ok (.ifCond .lt 11, 3) := by decide +kernel
theorem dXM_headAt_18 : decode cXM_headAt 18 = .ok (.iload_n 2, 1) := by decide +kernel
theorem dXM_headAt_19 : decode cXM_headAt 19 = .ok (.aload_n 0, 1) := by decide +kernel
theorem dXM_headAt_20 : decode cXM_headAt 20 = .ok (.getfield 138, 3) := by decide +kernel
theorem dXM_headAt_23 : decode cXM_headAt 23 = .ok (.if_icmp .lt 7, 3) := by decide +kernel
theorem dXM_headAt_26 : decode cXM_headAt 26 = .ok (.lconst 0, 1) := by decide +kernel
theorem dXM_headAt_27 : decode cXM_headAt 27 = .ok (.goto 14, 3) := by decide +kernel
theorem dXM_headAt_30 : decode cXM_headAt 30 = .ok (.aload_n 0, 1) := by decide +kernel
theorem dXM_headAt_31 : decode cXM_headAt 31 = .ok (.getfield 7, 3) := by decide +kernel
theorem dXM_headAt_34 : decode cXM_headAt 34 = .ok (.aload_n 0, 1) := by decide +kernel
theorem dXM_headAt_35 : decode cXM_headAt 35 = .ok (.getfield 65, 3) := by decide +kernel
theorem dXM_headAt_38 : decode cXM_headAt 38 = .ok (.iload_n 2, 1) := by decide +kernel
theorem dXM_headAt_39 : decode cXM_headAt 39 = .ok (.iaload, 1) := by decide +kernel
theorem dXM_headAt_40 : decode cXM_headAt 40 = .ok (.laload, 1) := by decide +kernel
theorem dXM_headAt_41 : decode cXM_headAt 41 = .ok (.lreturn, 1) := by decide +kernel
abbrev cXM_value : ByteArray := prog_10_method_42_code
def yXM_value : MethodName := ⟨RXM, "value", "(II)I"⟩
set_option maxRecDepth 100000 in
theorem qXM_value : Cond.code yXM_value cXM_value 6 (some .int) ∈ lg_tbl := fx_c 848 rfl
theorem hdXM_value : yXM_value.cls = RXM ∧ yXM_value.cls ≠ "java/lang/invoke/MethodHandle" ∧ yXM_value.cls ≠ "java/lang/invoke/VarHandle" ∧ (parseMethodDescriptor yXM_value.desc).map (fun d => d.parameters.length) = some 2 := by decide +kernel
theorem dXM_value_0 : decode cXM_value 0 = .ok (.iload_n 1, 1) := by decide +kernel
theorem dXM_value_1 : decode cXM_value 1 = .ok (.invokestatic 132, 3) := by decide +kernel
theorem dXM_value_4 : decode cXM_value 4 = .ok (.ifCond .eq 13, 3) := by decide +kernel
theorem dXM_value_7 : decode cXM_value 7 = .ok (.iload_n 2, 1) := by decide +kernel
theorem dXM_value_8 : decode cXM_value 8 = .ok (.ifCond .lt 9, 3) := by decide +kernel
theorem dXM_value_11 : decode cXM_value 11 = .ok (.iload_n 2, 1) := by decide +kernel
theorem dXM_value_12 : decode cXM_value 12 = .ok (.bipush 7, 2) := by decide +kernel
theorem dXM_value_14 : decode cXM_value 14 = .ok (.if_icmp .le 5, 3) := by decide +kernel
theorem dXM_value_17 : decode cXM_value 17 = .ok (.iconst 0, 1) := by decide +kernel
theorem dXM_value_18 : decode cXM_value 18 = .ok (.ireturn, 1) := by decide +kernel
theorem dXM_value_19 : decode cXM_value 19 = .ok (.aload_n 0, 1) := by decide +kernel
theorem dXM_value_20 : decode cXM_value 20 = .ok (.aload_n 0, 1) := by decide +kernel
theorem dXM_value_21 : decode cXM_value 21 = .ok (.getfield 38, 3) := by decide +kernel
theorem dXM_value_24 : decode cXM_value 24 = .ok (.iload_n 1, 1) := by decide +kernel
theorem dXM_value_25 : decode cXM_value 25 = .ok (.laload, 1) := by decide +kernel
theorem dXM_value_26 : decode cXM_value 26 = .ok (.iconst 1, 1) := by decide +kernel
theorem dXM_value_27 : decode cXM_value 27 = .ok (.invokevirtual 153, 3) := by decide +kernel
theorem dXM_value_30 : decode cXM_value 30 = .ok (.iconst 0, 1) := by decide +kernel
theorem dXM_value_31 : decode cXM_value 31 = .ok (.istore_n 3, 1) := by decide +kernel
theorem dXM_value_32 : decode cXM_value 32 = .ok (.iconst 0, 1) := by decide +kernel
theorem dXM_value_33 : decode cXM_value 33 = .ok (.istore 4, 2) := by decide +kernel
theorem dXM_value_35 : decode cXM_value 35 = .ok (.iload 4, 2) := by decide +kernel
theorem dXM_value_37 : decode cXM_value 37 = .ok (.aload_n 0, 1) := by decide +kernel
theorem dXM_value_38 : decode cXM_value 38 = .ok (.getfield 138, 3) := by decide +kernel
theorem dXM_value_41 : decode cXM_value 41 = .ok (.if_icmp .ge 70, 3) := by decide +kernel
theorem dXM_value_44 : decode cXM_value 44 = .ok (.aload_n 0, 1) := by decide +kernel
theorem dXM_value_45 : decode cXM_value 45 = .ok (.getfield 65, 3) := by decide +kernel
theorem dXM_value_48 : decode cXM_value 48 = .ok (.iload 4, 2) := by decide +kernel
theorem dXM_value_50 : decode cXM_value 50 = .ok (.iaload, 1) := by decide +kernel
theorem dXM_value_51 : decode cXM_value 51 = .ok (.istore 5, 2) := by decide +kernel
theorem dXM_value_53 : decode cXM_value 53 = .ok (.aload_n 0, 1) := by decide +kernel
theorem dXM_value_54 : decode cXM_value 54 = .ok (.getfield 20, 3) := by decide +kernel
theorem dXM_value_57 : decode cXM_value 57 = .ok (.iload 5, 2) := by decide +kernel
theorem dXM_value_59 : decode cXM_value 59 = .ok (.iaload, 1) := by decide +kernel
theorem dXM_value_60 : decode cXM_value 60 = .ok (.iload_n 2, 1) := by decide +kernel
theorem dXM_value_61 : decode cXM_value 61 = .ok (.if_icmp .ne 44, 3) := by decide +kernel
theorem dXM_value_64 : decode cXM_value 64 = .ok (.aload_n 0, 1) := by decide +kernel
theorem dXM_value_65 : decode cXM_value 65 = .ok (.getfield 17, 3) := by decide +kernel
theorem dXM_value_68 : decode cXM_value 68 = .ok (.iload 5, 2) := by decide +kernel
theorem dXM_value_70 : decode cXM_value 70 = .ok (.iaload, 1) := by decide +kernel
theorem dXM_value_71 : decode cXM_value 71 = .ok (.iconst 2, 1) := by decide +kernel
theorem dXM_value_72 : decode cXM_value 72 = .ok (.if_icmp .ge 33, 3) := by decide +kernel
theorem dXM_value_75 : decode cXM_value 75 = .ok (.aload_n 0, 1) := by decide +kernel
theorem dXM_value_76 : decode cXM_value 76 = .ok (.getfield 17, 3) := by decide +kernel
theorem dXM_value_79 : decode cXM_value 79 = .ok (.iload 5, 2) := by decide +kernel
theorem dXM_value_81 : decode cXM_value 81 = .ok (.iaload, 1) := by decide +kernel
theorem dXM_value_82 : decode cXM_value 82 = .ok (.ifCond .ne 13, 3) := by decide +kernel
theorem dXM_value_85 : decode cXM_value 85 = .ok (.aload_n 0, 1) := by decide +kernel
theorem dXM_value_86 : decode cXM_value 86 = .ok (.getfield 23, 3) := by decide +kernel
theorem dXM_value_89 : decode cXM_value 89 = .ok (.iload 5, 2) := by decide +kernel
theorem dXM_value_91 : decode cXM_value 91 = .ok (.iaload, 1) := by decide +kernel
theorem dXM_value_92 : decode cXM_value 92 = .ok (.goto 12, 3) := by decide +kernel
theorem dXM_value_95 : decode cXM_value 95 = .ok (.iload_n 3, 1) := by decide +kernel
theorem dXM_value_96 : decode cXM_value 96 = .ok (.aload_n 0, 1) := by decide +kernel
theorem dXM_value_97 : decode cXM_value 97 = .ok (.getfield 23, 3) := by decide +kernel
theorem dXM_value_100 : decode cXM_value 100 = .ok (.iload 5, 2) := by decide +kernel
theorem dXM_value_102 : decode cXM_value 102 = .ok (.iaload, 1) := by decide +kernel
theorem dXM_value_103 : decode cXM_value 103 = .ok (.iadd, 1) := by decide +kernel
theorem dXM_value_104 : decode cXM_value 104 = .ok (.istore_n 3, 1) := by decide +kernel
theorem dXM_value_105 : decode cXM_value 105 = .ok (.iinc 4 1, 3) := by decide +kernel
theorem dXM_value_108 : decode cXM_value 108 = .ok (.goto (-73), 3) := by decide +kernel
theorem dXM_value_111 : decode cXM_value 111 = .ok (.iload_n 3, 1) := by decide +kernel
theorem dXM_value_112 : decode cXM_value 112 = .ok (.ireturn, 1) := by decide +kernel
abbrev cXM_all : ByteArray := prog_10_method_43_code
def yXM_all : MethodName := ⟨RXM, "all", "()I"⟩
set_option maxRecDepth 100000 in
theorem qXM_all : Cond.code yXM_all cXM_all 1 (some .int) ∈ lg_tbl := fx_c 852 rfl
theorem hdXM_all : yXM_all.cls = RXM ∧ yXM_all.cls ≠ "java/lang/invoke/MethodHandle" ∧ yXM_all.cls ≠ "java/lang/invoke/VarHandle" ∧ (parseMethodDescriptor yXM_all.desc).map (fun d => d.parameters.length) = some 0 := by decide +kernel
theorem dXM_all_0 : decode cXM_all 0 = .ok (.aload_n 0, 1) := by decide +kernel
theorem dXM_all_1 : decode cXM_all 1 = .ok (.getfield 76, 3) := by decide +kernel
theorem dXM_all_4 : decode cXM_all 4 = .ok (.ireturn, 1) := by decide +kernel
